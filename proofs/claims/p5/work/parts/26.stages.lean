set_option maxHeartbeats 8000000 in
set_option maxRecDepth 100000 in
theorem c_X7_stagePoints (l : Launch) (dC : Nat → ClassId) (dI : Nat → Nat → Nat) (cI cZ : ClassId) (sz : Nat) (tS : Nat) (pP : Int32) (pP_i : Int) (pP_h : pP.toInt = pP_i) : Met l yX7_stagePoints (Cond.code yX7_stagePoints cX7_stagePoints 1 (some .int) :: lw_good) ({ frames := 0, cells := 0, slots := 0, locals := 0 }) (va_Pc [.int pP] (fun U => U.heap.size = sz ∧ va_P (dC, dI) vwCl [] U.heap ∧ va_K (dC, dI) vwCl [(cI, .int), (cZ, .boolean)] U ∧ va_D (fun _ => True) [] ∧ zS tS (va_A [] sz) U)) (va_Qi (fun (r u : Int32) => r = u) (fun u t => va_P (dC, dI) vwCl [] t.heap ∧ va_K (dC, dI) vwCl [(cI, .int), (cZ, .boolean)] t ∧ va_D (va_A [] sz) []) (va_A [] sz)) 0 0 (va_A [] sz) := by
  refine Met.ofW (cc := cX7_stagePoints) (maxL := 1) (ret := (some .int)) (by decide) rfl ?_
  intro p e s m args below meth c s₁ B hml hv
  obtain ⟨rfl, hsz, hP, hK, hD0, hZ⟩ := hv
  have hx := B.exec
  have hb := B.bytes
  have hr := B.returns
  have hts := atoms_spec (ws := Cond.code yX7_stagePoints cX7_stagePoints 1 (some .int) :: lw_good) B.pre
  have hown : s.vm.findClass RX7 = some m.cls := findClass_of_methodNamed B.named
  have hlocks := B.notSynchronized
  subst hsz
  have hD := hD0.self (sz := s.heap.size)
  generalize hAe : va_A [] s.heap.size = A at hD hZ ⊢
  have hA : ∀ q : Nat, s.heap.size ≤ q → A q := fun q h => by rw [← hAe]; exact Or.inr h
  have hS : va_S A s.heap s.heap [] := va_S.rf
  have hP : va_P (dC, dI) vwCl [] s.heap := hP
  have hl := lv_entry ([.int pP]) (n := 1) (Nat.le_of_ble_eq_true rfl)
  rw [lg_entry_eq]
  generalize (lg_sl ([.int pP]) ++ List.replicate (1 - (lg_sl ([.int pP])).length) Slot.unset).toArray = ls at hl ⊢
  have hl : lv_has ls 1 [(0, .int pP)] := hl
  obtain ⟨fS, hTS⟩ := hZ.2.1
  refine lv_iload_n hx hb dX7_stagePoints_0 rfl (lv_at hl 0 rfl) ?_
  refine lv_iconst (v := 1) hx hb dX7_stagePoints_1 (by decide) ?_
  refine lv_icmp_lt (tgt := 23) hx hb dX7_stagePoints_2 (by decide) (fun c_1 => ?_) (fun c_1 => ?_)
  ·
    have c_1 : pP_i < (1:Int) := zz_lt pP_h (by decide) c_1
    refine lv_iconst (v := 0) hx hb dX7_stagePoints_23 (by decide) ?_
    have hu9 : (0 : Int32).toInt = (0:Int) := (by decide)
    have hP9 := hP.sub (ws' := []) [] rfl
    have hD9 := hD.sub (ws' := []) [] (by decide) rfl
    exact W.iret (v := 0) hx hb hr (fun t ht hW => ⟨⟨0, 0, rfl, rfl, by rw [ht]; exact hP9, va_K.moved hW.alike hK, hD9⟩, hS.F ht⟩) hS.2.2 dX7_stagePoints_24
  ·
    have c_1 : ¬ (pP_i < (1:Int)) := zz_ltn pP_h (by decide) c_1
    refine lv_iload_n hx hb dX7_stagePoints_5 rfl (lv_at hl 0 rfl) ?_
    refine va_getsN hx hb hZ.1 hS hown (va_Nw.use rfl hZ.2.2) (fun _ h9 => h9) dX7_stagePoints_6 ?_
    refine va_tlen (v := 3) hx hb hTS hS rfl dX7_stagePoints_9 ?_
    refine lv_icmp_gt (tgt := 23) hx hb dX7_stagePoints_10 (by decide) (fun c_2 => ?_) (fun c_2 => ?_)
    ·
      have c_2 : (3:Int) < pP_i := zz_lt (by decide) pP_h c_2
      refine lv_iconst (v := 0) hx hb dX7_stagePoints_23 (by decide) ?_
      have hu9 : (0 : Int32).toInt = (0:Int) := (by decide)
      have hP9 := hP.sub (ws' := []) [] rfl
      have hD9 := hD.sub (ws' := []) [] (by decide) rfl
      exact W.iret (v := 0) hx hb hr (fun t ht hW => ⟨⟨0, 0, rfl, rfl, by rw [ht]; exact hP9, va_K.moved hW.alike hK, hD9⟩, hS.F ht⟩) hS.2.2 dX7_stagePoints_24
    ·
      have c_2 : ¬ ((3:Int) < pP_i) := zz_ltn (by decide) pP_h c_2
      refine va_getsN hx hb hZ.1 hS hown (va_Nw.use rfl hZ.2.2) (fun _ h9 => h9) dX7_stagePoints_13 ?_
      refine lv_iload_n hx hb dX7_stagePoints_16 rfl (lv_at hl 0 rfl) ?_
      refine lv_iconst (v := 1) hx hb dX7_stagePoints_17 (by decide) ?_
      refine lv_isub hx hb dX7_stagePoints_18 ?_
      refine lv_topi (fun v_3 ev_3 => ?_)
      have hv_3 : v_3.toInt = (pP_i - (1:Int)) := by rw [ev_3]; exact zz_subI pP_h (by decide) (by omega) (by omega)
      refine va_ti (v := .int (fS (Int32.toNatClampNeg v_3))) hx hb hTS hS (zz_in (a := (pP_i - (1:Int))) hv_3 (by omega) (by omega)) rfl dX7_stagePoints_19 ?_
      refine lv_topi (fun v_4 _ => ?_)
      refine lv_goto (tgt := 24) hx hb dX7_stagePoints_20 (by decide) ?_
      have hu9 : (v_4 : Int32).toInt = (v_4).toInt := rfl
      have hP9 := hP.sub (ws' := []) [] rfl
      have hD9 := hD.sub (ws' := []) [] (by decide) rfl
      exact W.iret (v := v_4) hx hb hr (fun t ht hW => ⟨⟨v_4, v_4, rfl, rfl, by rw [ht]; exact hP9, va_K.moved hW.alike hK, hD9⟩, hS.F ht⟩) hS.2.2 dX7_stagePoints_24

set_option maxHeartbeats 8000000 in
set_option maxRecDepth 100000 in
theorem c_X7_addStage (l : Launch) (dC : Nat → ClassId) (dI : Nat → Nat → Nat) (cI cZ : ClassId) (sz : Nat) (tS : Nat) (h0 : Nat) (pRa : Nat) (pN : Int32) (pN_i : Int) (pN_h : pN.toInt = pN_i) (B_pN : 0 ≤ pN_i ∧ pN_i ≤ 20) (v_x_number : Int32) (v_x_number_i : Int) (v_x_number_h : v_x_number.toInt = v_x_number_i) (B_v_x_number : 0 ≤ v_x_number_i ∧ v_x_number_i ≤ 20) (v_x_limit : Int32) (v_x_limit_i : Int) (v_x_limit_h : v_x_limit.toInt = v_x_limit_i) (x_totals : Nat) (x_points : Nat) (x_out : Nat) (f_x_totals : Nat → Int32) (f_x_points : Nat → Int32) (f_x_out : Nat → Int32) (v_a_minute : Int32) (v_a_minute_i : Int) (v_a_minute_h : v_a_minute.toInt = v_a_minute_i) (v_a_left : Int32) (v_a_left_i : Int) (v_a_left_h : v_a_left.toInt = v_a_left_i) (v_a_primes : Int32) (v_a_primes_i : Int) (v_a_primes_h : v_a_primes.toInt = v_a_primes_i) (B_v_a_primes : 0 ≤ v_a_primes_i ∧ v_a_primes_i ≤ 5) (j_a_lot : Int64) (v_a_foremost : Int32) (v_a_foremost_i : Int) (v_a_foremost_h : v_a_foremost.toInt = v_a_foremost_i) (a_rides : Nat) (a_metres : Nat) (a_store : Nat) (a_seconds : Nat) (a_timesHeld : Nat) (a_work : Nat) (a_heldFor : Nat) (a_primeSeconds : Nat) (a_orderRows : Nat) (a_bunches : Nat) (a_values : Nat) (f_a_seconds : Nat → Int32) (f_a_primeSeconds : Nat → Int32) (hh0 : v_x_number_i ≤ 19) : Met l yX7_addStage (Cond.code yX7_addStage cX7_addStage 8 none :: lw_good) ({ frames := 3, cells := 0, slots := 0, locals := 70 }) (va_Pc [.ref h0, .ref pRa, .int pN] (fun U => U.heap.size = sz ∧ va_P (dC, dI) vwCl [(h0, .inr (7, [.int v_x_number, .int v_x_limit, .ref x_totals, .ref x_points, .ref x_out])), (x_totals, .inl (cI, 20, .inl f_x_totals)), (x_points, .inl (cI, 20, .inl f_x_points)), (x_out, .inl (cZ, 20, .inl f_x_out)), (pRa, .inr (3, [.int v_a_minute, .int v_a_left, .int v_a_primes, .long j_a_lot, .int v_a_foremost, .ref a_rides, .ref a_metres, .ref a_store, .ref a_seconds, .ref a_timesHeld, .ref a_work, .ref a_heldFor, .ref a_primeSeconds, .ref a_orderRows, .ref a_bunches, .ref a_values])), (a_seconds, .inl (cI, 20, .inl f_a_seconds)), (a_primeSeconds, .inl (cI, 100, .inl f_a_primeSeconds))] U.heap ∧ va_K (dC, dI) vwCl [(cI, .int), (cZ, .boolean)] U ∧ va_D (fun _ => True) [(h0, .inr (7, [.int v_x_number, .int v_x_limit, .ref x_totals, .ref x_points, .ref x_out])), (x_totals, .inl (cI, 20, .inl f_x_totals)), (x_points, .inl (cI, 20, .inl f_x_points)), (x_out, .inl (cZ, 20, .inl f_x_out)), (pRa, .inr (3, [.int v_a_minute, .int v_a_left, .int v_a_primes, .long j_a_lot, .int v_a_foremost, .ref a_rides, .ref a_metres, .ref a_store, .ref a_seconds, .ref a_timesHeld, .ref a_work, .ref a_heldFor, .ref a_primeSeconds, .ref a_orderRows, .ref a_bunches, .ref a_values])), (a_seconds, .inl (cI, 20, .inl f_a_seconds)), (a_primeSeconds, .inl (cI, 100, .inl f_a_primeSeconds))] ∧ zS tS (va_A [(h0, .inr (7, [.int v_x_number, .int v_x_limit, .ref x_totals, .ref x_points, .ref x_out])), (x_totals, .inl (cI, 20, .inl f_x_totals)), (x_points, .inl (cI, 20, .inl f_x_points)), (x_out, .inl (cZ, 20, .inl f_x_out)), (pRa, .inr (3, [.int v_a_minute, .int v_a_left, .int v_a_primes, .long j_a_lot, .int v_a_foremost, .ref a_rides, .ref a_metres, .ref a_store, .ref a_seconds, .ref a_timesHeld, .ref a_work, .ref a_heldFor, .ref a_primeSeconds, .ref a_orderRows, .ref a_bunches, .ref a_values])), (a_seconds, .inl (cI, 20, .inl f_a_seconds)), (a_primeSeconds, .inl (cI, 100, .inl f_a_primeSeconds))] sz) U)) (va_Qv (fun _ : Unit => True) (fun _ t => ∃ (w_h0_number : Int32) (g_x_totals : Nat → Int32) (g_x_points : Nat → Int32) (g_x_out : Nat → Int32), (w_h0_number.toInt = v_x_number_i + 1) ∧ (0 ≤ w_h0_number.toInt ∧ w_h0_number.toInt ≤ 20) ∧ va_P (dC, dI) vwCl [(h0, .inr (7, [.int w_h0_number, .int v_x_limit, .ref x_totals, .ref x_points, .ref x_out])), (x_totals, .inl (cI, 20, .inl g_x_totals)), (x_points, .inl (cI, 20, .inl g_x_points)), (x_out, .inl (cZ, 20, .inl g_x_out)), (pRa, .inr (3, [.int v_a_minute, .int v_a_left, .int v_a_primes, .long j_a_lot, .int v_a_foremost, .ref a_rides, .ref a_metres, .ref a_store, .ref a_seconds, .ref a_timesHeld, .ref a_work, .ref a_heldFor, .ref a_primeSeconds, .ref a_orderRows, .ref a_bunches, .ref a_values])), (a_seconds, .inl (cI, 20, .inl f_a_seconds)), (a_primeSeconds, .inl (cI, 100, .inl f_a_primeSeconds))] t.heap ∧ va_K (dC, dI) vwCl [(cI, .int), (cZ, .boolean)] t ∧ va_D (va_A [(h0, .inr (7, [.int v_x_number, .int v_x_limit, .ref x_totals, .ref x_points, .ref x_out])), (x_totals, .inl (cI, 20, .inl f_x_totals)), (x_points, .inl (cI, 20, .inl f_x_points)), (x_out, .inl (cZ, 20, .inl f_x_out)), (pRa, .inr (3, [.int v_a_minute, .int v_a_left, .int v_a_primes, .long j_a_lot, .int v_a_foremost, .ref a_rides, .ref a_metres, .ref a_store, .ref a_seconds, .ref a_timesHeld, .ref a_work, .ref a_heldFor, .ref a_primeSeconds, .ref a_orderRows, .ref a_bunches, .ref a_values])), (a_seconds, .inl (cI, 20, .inl f_a_seconds)), (a_primeSeconds, .inl (cI, 100, .inl f_a_primeSeconds))] sz) [(h0, .inr (7, [.int w_h0_number, .int v_x_limit, .ref x_totals, .ref x_points, .ref x_out])), (x_totals, .inl (cI, 20, .inl g_x_totals)), (x_points, .inl (cI, 20, .inl g_x_points)), (x_out, .inl (cZ, 20, .inl g_x_out)), (pRa, .inr (3, [.int v_a_minute, .int v_a_left, .int v_a_primes, .long j_a_lot, .int v_a_foremost, .ref a_rides, .ref a_metres, .ref a_store, .ref a_seconds, .ref a_timesHeld, .ref a_work, .ref a_heldFor, .ref a_primeSeconds, .ref a_orderRows, .ref a_bunches, .ref a_values])), (a_seconds, .inl (cI, 20, .inl f_a_seconds)), (a_primeSeconds, .inl (cI, 100, .inl f_a_primeSeconds))]) (va_A [(h0, .inr (7, [.int v_x_number, .int v_x_limit, .ref x_totals, .ref x_points, .ref x_out])), (x_totals, .inl (cI, 20, .inl f_x_totals)), (x_points, .inl (cI, 20, .inl f_x_points)), (x_out, .inl (cZ, 20, .inl f_x_out)), (pRa, .inr (3, [.int v_a_minute, .int v_a_left, .int v_a_primes, .long j_a_lot, .int v_a_foremost, .ref a_rides, .ref a_metres, .ref a_store, .ref a_seconds, .ref a_timesHeld, .ref a_work, .ref a_heldFor, .ref a_primeSeconds, .ref a_orderRows, .ref a_bunches, .ref a_values])), (a_seconds, .inl (cI, 20, .inl f_a_seconds)), (a_primeSeconds, .inl (cI, 100, .inl f_a_primeSeconds))] sz)) 0 0 (va_A [(h0, .inr (7, [.int v_x_number, .int v_x_limit, .ref x_totals, .ref x_points, .ref x_out])), (x_totals, .inl (cI, 20, .inl f_x_totals)), (x_points, .inl (cI, 20, .inl f_x_points)), (x_out, .inl (cZ, 20, .inl f_x_out)), (pRa, .inr (3, [.int v_a_minute, .int v_a_left, .int v_a_primes, .long j_a_lot, .int v_a_foremost, .ref a_rides, .ref a_metres, .ref a_store, .ref a_seconds, .ref a_timesHeld, .ref a_work, .ref a_heldFor, .ref a_primeSeconds, .ref a_orderRows, .ref a_bunches, .ref a_values])), (a_seconds, .inl (cI, 20, .inl f_a_seconds)), (a_primeSeconds, .inl (cI, 100, .inl f_a_primeSeconds))] sz) := by
  refine Met.ofW (cc := cX7_addStage) (maxL := 8) (ret := none) (by decide) rfl ?_
  intro p e s m args below meth c s₁ B hml hv
  obtain ⟨rfl, hsz, hP, hK, hD0, hZ⟩ := hv
  have hx := B.exec
  have hb := B.bytes
  have hr := B.returns
  have hts := atoms_spec (ws := Cond.code yX7_addStage cX7_addStage 8 none :: lw_good) B.pre
  have hown : s.vm.findClass RX7 = some m.cls := findClass_of_methodNamed B.named
  have hlocks := B.notSynchronized
  have hiX3 : ∀ w ∈ wsX30, w ∈ (Cond.code yX7_addStage cX7_addStage 8 none :: lw_good) := fun w h => List.mem_cons_of_mem _ (zi_X3 w h)
  have hiX7 : ∀ w ∈ wsX70, w ∈ (Cond.code yX7_addStage cX7_addStage 8 none :: lw_good) := fun w h => List.mem_cons_of_mem _ (zi_X7 w h)
  have hw0 := hts (.initialized RX3) (List.mem_cons_of_mem _ zw_54)
  have hw1 := hts (.methodLink RX7 29 yX3_riderAt) (List.mem_cons_of_mem _ zw_653)
  have hw2 := hts (.instanceMethod yX3_riderAt) (List.mem_cons_of_mem _ zw_619)
  have hw3 := hts (.selects RX3 yX3_riderAt yX3_riderAt) (List.mem_cons_of_mem _ zw_620)
  have hw4 := hts (.fieldLink RX7 35 "BunchRace$Race" "seconds" "[I") (List.mem_cons_of_mem _ zw_246)
  have hw5 := hts (.fieldLink RX7 15 "BunchRace$Stages" "limit" "I") (List.mem_cons_of_mem _ zw_315)
  have hw6 := hts (.fieldLink RX7 9 "BunchRace$Stages" "number" "I") (List.mem_cons_of_mem _ zw_313)
  have hw7 := hts (.methodLink RX7 38 yX3_primePointsOf) (List.mem_cons_of_mem _ zw_654)
  have hw8 := hts (.instanceMethod yX3_primePointsOf) (List.mem_cons_of_mem _ zw_611)
  have hw9 := hts (.selects RX3 yX3_primePointsOf yX3_primePointsOf) (List.mem_cons_of_mem _ zw_612)
  have hw10 := hts (.fieldLink RX7 22 "BunchRace$Stages" "points" "[I") (List.mem_cons_of_mem _ zw_319)
  have hw11 := hts (.methodLink RX7 41 yX3_placeOf) (List.mem_cons_of_mem _ zw_655)
  have hw12 := hts (.instanceMethod yX3_placeOf) (List.mem_cons_of_mem _ zw_604)
  have hw13 := hts (.selects RX3 yX3_placeOf yX3_placeOf) (List.mem_cons_of_mem _ zw_605)
  have hw14 := hts (.initialized RX7) (List.mem_cons_of_mem _ zw_57)
  have hw15 := hts (.methodLink RX7 44 yX7_stagePoints) (List.mem_cons_of_mem _ zw_656)
  have hw16 := hts (.static yX7_stagePoints) (List.mem_cons_of_mem _ zw_657)
  have hw17 := hts (.fieldLink RX7 25 "BunchRace$Stages" "out" "[Z") (List.mem_cons_of_mem _ zw_321)
  have hw18 := hts (.fieldLink RX7 18 "BunchRace$Stages" "totals" "[I") (List.mem_cons_of_mem _ zw_317)
  subst hsz
  have hD := hD0.self (sz := s.heap.size)
  generalize hAe : va_A [(h0, .inr (7, [.int v_x_number, .int v_x_limit, .ref x_totals, .ref x_points, .ref x_out])), (x_totals, .inl (cI, 20, .inl f_x_totals)), (x_points, .inl (cI, 20, .inl f_x_points)), (x_out, .inl (cZ, 20, .inl f_x_out)), (pRa, .inr (3, [.int v_a_minute, .int v_a_left, .int v_a_primes, .long j_a_lot, .int v_a_foremost, .ref a_rides, .ref a_metres, .ref a_store, .ref a_seconds, .ref a_timesHeld, .ref a_work, .ref a_heldFor, .ref a_primeSeconds, .ref a_orderRows, .ref a_bunches, .ref a_values])), (a_seconds, .inl (cI, 20, .inl f_a_seconds)), (a_primeSeconds, .inl (cI, 100, .inl f_a_primeSeconds))] s.heap.size = A at hD hZ ⊢
  have hA : ∀ q : Nat, s.heap.size ≤ q → A q := fun q h => by rw [← hAe]; exact Or.inr h
  have hS : va_S A s.heap s.heap [] := va_S.rf
  have hP : va_P (dC, dI) vwCl [(h0, .inr (7, [.int v_x_number, .int v_x_limit, .ref x_totals, .ref x_points, .ref x_out])), (x_totals, .inl (cI, 20, .inl f_x_totals)), (x_points, .inl (cI, 20, .inl f_x_points)), (x_out, .inl (cZ, 20, .inl f_x_out)), (pRa, .inr (3, [.int v_a_minute, .int v_a_left, .int v_a_primes, .long j_a_lot, .int v_a_foremost, .ref a_rides, .ref a_metres, .ref a_store, .ref a_seconds, .ref a_timesHeld, .ref a_work, .ref a_heldFor, .ref a_primeSeconds, .ref a_orderRows, .ref a_bunches, .ref a_values])), (a_seconds, .inl (cI, 20, .inl f_a_seconds)), (a_primeSeconds, .inl (cI, 100, .inl f_a_primeSeconds))] s.heap := hP
  have hl := lv_entry ([.ref h0, .ref pRa, .int pN]) (n := 8) (Nat.le_of_ble_eq_true rfl)
  rw [lg_entry_eq]
  generalize (lg_sl ([.ref h0, .ref pRa, .int pN]) ++ List.replicate (8 - (lg_sl ([.ref h0, .ref pRa, .int pN])).length) Slot.unset).toArray = ls at hl ⊢
  have hl : lv_has ls 8 [(0, .ref h0), (1, .ref pRa), (2, .int pN)] := hl
  refine lv_aload_n hx hb dX7_addStage_0 rfl (lv_at hl 1 rfl) ?_
  refine lv_iconst (v := 1) hx hb dX7_addStage_1 (by decide) ?_
  have hPc := hP.sub (ws' := [(pRa, .inr (3, [.int v_a_minute, .int v_a_left, .int v_a_primes, .long j_a_lot, .int v_a_foremost, .ref a_rides, .ref a_metres, .ref a_store, .ref a_seconds, .ref a_timesHeld, .ref a_work, .ref a_heldFor, .ref a_primeSeconds, .ref a_orderRows, .ref a_bunches, .ref a_values])), (a_seconds, .inl (cI, 20, .inl f_a_seconds))]) [4, 5] rfl
  have hDc := hD.sub (ws' := [(pRa, .inr (3, [.int v_a_minute, .int v_a_left, .int v_a_primes, .long j_a_lot, .int v_a_foremost, .ref a_rides, .ref a_metres, .ref a_store, .ref a_seconds, .ref a_timesHeld, .ref a_work, .ref a_heldFor, .ref a_primeSeconds, .ref a_orderRows, .ref a_bunches, .ref a_values])), (a_seconds, .inl (cI, 20, .inl f_a_seconds))]) [4, 5] (by decide) rfl
  have hFc := va_free (wc := [(pRa, .inr (3, [.int v_a_minute, .int v_a_left, .int v_a_primes, .long j_a_lot, .int v_a_foremost, .ref a_rides, .ref a_metres, .ref a_store, .ref a_seconds, .ref a_timesHeld, .ref a_work, .ref a_heldFor, .ref a_primeSeconds, .ref a_orderRows, .ref a_bunches, .ref a_values])), (a_seconds, .inl (cI, 20, .inl f_a_seconds))]) hD hS hA [4, 5] rfl
  refine va_calli (va_runV (As := [.int 1]) (rest := []) ⟨hx, hb, hml, hown, hts⟩ (c_X3_riderAt l dC dI cI cZ (s.heap).size pRa 1 (1:Int) (by decide) v_a_minute v_a_minute_i v_a_minute_h v_a_left v_a_left_i v_a_left_h v_a_primes v_a_primes_i v_a_primes_h (by omega) j_a_lot v_a_foremost v_a_foremost_i v_a_foremost_h a_rides a_metres a_store a_seconds a_timesHeld a_work a_heldFor a_primeSeconds a_orderRows a_bunches a_values f_a_seconds) ⟨callB_of 1 hts (zz_good zw_621) rfl rfl rfl hw0 hw1 (by decide +kernel) ⟨Nat.le_of_ble_eq_true rfl, Nat.le_of_ble_eq_true rfl⟩, hw2, hw3⟩ ⟨fun a U g mk q => by obtain ⟨q0, q1, qP, qK, qD⟩ := q; exact ⟨q0, q1, qP, va_K.moved (u := U) (U := U.calling g mk a) (Vm.Alike.refl U.vm) qK, qD⟩, va_recv hK hPc (ci := 3) (q0 := 0) rfl rfl, fun U hU hW => ⟨rfl, by rw [hU], by rw [hU]; exact hPc, va_K.moved hW.alike hK, hDc.weaken (fun _ _ _ _ => trivial)⟩⟩ rfl rfl hl.1 rfl (lv_room (Nat.le_of_ble_eq_true rfl)) dX7_addStage_2 ⟨Nat.le_of_ble_eq_true rfl, Nat.le_of_ble_eq_true rfl⟩) hS (fun q _ h => hFc q h) hFc (fun r_1 u t H1 locs ht hvm hpost hB hz1 hk1 hS => ?_)
  subst hpost
  obtain ⟨hf_2, hP1, hK1, hD1⟩ := hB
  rw [ht] at hP1
  obtain ⟨hP, hD⟩ := va_join (wr := [(h0, .inr (7, [.int v_x_number, .int v_x_limit, .ref x_totals, .ref x_points, .ref x_out])), (x_totals, .inl (cI, 20, .inl f_x_totals)), (x_points, .inl (cI, 20, .inl f_x_points)), (x_out, .inl (cZ, 20, .inl f_x_out)), (a_primeSeconds, .inl (cI, 100, .inl f_a_primeSeconds))]) (w1 := [(pRa, .inr (3, [.int v_a_minute, .int v_a_left, .int v_a_primes, .long j_a_lot, .int v_a_foremost, .ref a_rides, .ref a_metres, .ref a_store, .ref a_seconds, .ref a_timesHeld, .ref a_work, .ref a_heldFor, .ref a_primeSeconds, .ref a_orderRows, .ref a_bunches, .ref a_values])), (a_seconds, .inl (cI, 20, .inl f_a_seconds))]) hP hD [4, 5] [0, 1, 2, 3, 6] rfl rfl (by decide) (by decide) hk1 hFc hP1 hD1
  generalize H1 = H at hP hS ⊢
  have hP : va_P (dC, dI) vwCl [(h0, .inr (7, [.int v_x_number, .int v_x_limit, .ref x_totals, .ref x_points, .ref x_out])), (x_totals, .inl (cI, 20, .inl f_x_totals)), (x_points, .inl (cI, 20, .inl f_x_points)), (x_out, .inl (cZ, 20, .inl f_x_out)), (a_primeSeconds, .inl (cI, 100, .inl f_a_primeSeconds)), (pRa, .inr (3, [.int v_a_minute, .int v_a_left, .int v_a_primes, .long j_a_lot, .int v_a_foremost, .ref a_rides, .ref a_metres, .ref a_store, .ref a_seconds, .ref a_timesHeld, .ref a_work, .ref a_heldFor, .ref a_primeSeconds, .ref a_orderRows, .ref a_bunches, .ref a_values])), (a_seconds, .inl (cI, 20, .inl f_a_seconds))] H := hP
  have hD : va_D A [(h0, .inr (7, [.int v_x_number, .int v_x_limit, .ref x_totals, .ref x_points, .ref x_out])), (x_totals, .inl (cI, 20, .inl f_x_totals)), (x_points, .inl (cI, 20, .inl f_x_points)), (x_out, .inl (cZ, 20, .inl f_x_out)), (a_primeSeconds, .inl (cI, 100, .inl f_a_primeSeconds)), (pRa, .inr (3, [.int v_a_minute, .int v_a_left, .int v_a_primes, .long j_a_lot, .int v_a_foremost, .ref a_rides, .ref a_metres, .ref a_store, .ref a_seconds, .ref a_timesHeld, .ref a_work, .ref a_heldFor, .ref a_primeSeconds, .ref a_orderRows, .ref a_bunches, .ref a_values])), (a_seconds, .inl (cI, 20, .inl f_a_seconds))] := hD
  have hf_2 : -1 ≤ r_1.toInt ∧ r_1.toInt ≤ 19 := hf_2
  refine lv_istore_n (lv' := [(3, .int r_1), (0, .ref h0), (1, .ref pRa), (2, .int pN)]) hx hb dX7_addStage_5 rfl hl (by decide) rfl (fun ls hl => ?_)
  refine lv_iload_n hx hb dX7_addStage_6 rfl (lv_at hl 0 rfl) ?_
  refine lv_iconst (v := (-1)) hx hb dX7_addStage_7 (by decide) ?_
  refine lv_icmp_ne (tgt := 15) hx hb dX7_addStage_8 (by decide) (fun c_3 => ?_) (fun c_3 => ?_)
  ·
    have c_3 : ¬ ((r_1).toInt = (-1:Int)) := zz_eqn rfl (by decide) c_3
    refine lv_aload_n hx hb dX7_addStage_15 rfl (lv_at hl 2 rfl) ?_
    refine va_get (D := (dC, dI)) (ci := 3) (v := .ref a_seconds) (C := RX3) (T := TX3) (N := 16) hx hb hts hiX3 hown hK hP 5 rfl rfl 8 (by decide) hw4 (fun _ h9 => h9) rfl dX7_addStage_16 ?_
    refine lv_iload_n hx hb dX7_addStage_19 rfl (lv_at hl 0 rfl) ?_
    refine va_iald hx hb hK hP 6 0 rfl rfl (zz_in (a := (r_1).toInt) rfl (by omega) (by omega)) dX7_addStage_20 ?_
    refine lv_topi (fun v_4 ev_4 => ?_)
    refine lv_bipush (v := 100) hx hb dX7_addStage_21 (by decide) ?_
    refine lv_aload_n hx hb dX7_addStage_23 rfl (lv_at hl 1 rfl) ?_
    refine va_get (D := (dC, dI)) (ci := 7) (v := .int v_x_limit) (C := RX7) (T := TX7) (N := 5) hx hb hts hiX7 hown hK hP 0 rfl rfl 1 (by decide) hw5 (fun _ h9 => h9) rfl dX7_addStage_24 ?_
    refine lv_iadd hx hb dX7_addStage_27 ?_
    refine lv_topi (fun v_5 _ => ?_)
    refine lv_imul hx hb dX7_addStage_28 ?_
    refine lv_topi (fun v_6 _ => ?_)
    refine lv_istore (lv' := [(4, .int v_6), (3, .int r_1), (0, .ref h0), (1, .ref pRa), (2, .int pN)]) hx hb dX7_addStage_29 hl (by decide) rfl (fun ls hl => ?_)
    refine lv_iconst (v := 0) hx hb dX7_addStage_31 (by decide) ?_
    refine lv_istore (lv' := [(5, .int 0), (4, .int v_6), (3, .int r_1), (0, .ref h0), (1, .ref pRa), (2, .int pN)]) hx hb dX7_addStage_32 hl (by decide) rfl (fun ls hl => ?_)
    have L_43 : ∀ (n : Nat) (i5_L_43 : Int32) (g_x_out_L_43 : Nat → Int32) (g_x_points_L_43 : Nat → Int32) (g_x_totals_L_43 : Nat → Int32) (H : Heap) (locs : List Loc) (ls : Array Slot), (0 ≤ i5_L_43.toInt) → (i5_L_43.toInt ≤ 20) → (20 - i5_L_43.toInt) < (n : Int) → va_P (dC, dI) vwCl [(h0, .inr (7, [.int v_x_number, .int v_x_limit, .ref x_totals, .ref x_points, .ref x_out])), (x_totals, .inl (cI, 20, .inl g_x_totals_L_43)), (x_points, .inl (cI, 20, .inl g_x_points_L_43)), (x_out, .inl (cZ, 20, .inl g_x_out_L_43)), (a_primeSeconds, .inl (cI, 100, .inl f_a_primeSeconds)), (pRa, .inr (3, [.int v_a_minute, .int v_a_left, .int v_a_primes, .long j_a_lot, .int v_a_foremost, .ref a_rides, .ref a_metres, .ref a_store, .ref a_seconds, .ref a_timesHeld, .ref a_work, .ref a_heldFor, .ref a_primeSeconds, .ref a_orderRows, .ref a_bunches, .ref a_values])), (a_seconds, .inl (cI, 20, .inl f_a_seconds))] H → va_D A [(h0, .inr (7, [.int v_x_number, .int v_x_limit, .ref x_totals, .ref x_points, .ref x_out])), (x_totals, .inl (cI, 20, .inl g_x_totals_L_43)), (x_points, .inl (cI, 20, .inl g_x_points_L_43)), (x_out, .inl (cZ, 20, .inl g_x_out_L_43)), (a_primeSeconds, .inl (cI, 100, .inl f_a_primeSeconds)), (pRa, .inr (3, [.int v_a_minute, .int v_a_left, .int v_a_primes, .long j_a_lot, .int v_a_foremost, .ref a_rides, .ref a_metres, .ref a_store, .ref a_seconds, .ref a_timesHeld, .ref a_work, .ref a_heldFor, .ref a_primeSeconds, .ref a_orderRows, .ref a_bunches, .ref a_values])), (a_seconds, .inl (cI, 20, .inl f_a_seconds))] → va_S A s.heap H locs → lv_has ls 8 [(5, .int i5_L_43), (4, .int v_6), (3, .int r_1), (0, .ref h0), (1, .ref pRa), (2, .int pN)] → W p l e ((headSpec (Cond.code yX7_addStage cX7_addStage 8 none :: lw_good) ({ frames := 3, cells := 0, slots := 0, locals := 70 })).room) s m (([.ref h0, .ref pRa, .int pN] : List Value).toArray) below meth c H locs 0 0 (MQ below (va_Qv (fun _ : Unit => True) (fun _ t => ∃ (w_h0_number : Int32) (g_x_totals : Nat → Int32) (g_x_points : Nat → Int32) (g_x_out : Nat → Int32), (w_h0_number.toInt = v_x_number_i + 1) ∧ (0 ≤ w_h0_number.toInt ∧ w_h0_number.toInt ≤ 20) ∧ va_P (dC, dI) vwCl [(h0, .inr (7, [.int w_h0_number, .int v_x_limit, .ref x_totals, .ref x_points, .ref x_out])), (x_totals, .inl (cI, 20, .inl g_x_totals)), (x_points, .inl (cI, 20, .inl g_x_points)), (x_out, .inl (cZ, 20, .inl g_x_out)), (pRa, .inr (3, [.int v_a_minute, .int v_a_left, .int v_a_primes, .long j_a_lot, .int v_a_foremost, .ref a_rides, .ref a_metres, .ref a_store, .ref a_seconds, .ref a_timesHeld, .ref a_work, .ref a_heldFor, .ref a_primeSeconds, .ref a_orderRows, .ref a_bunches, .ref a_values])), (a_seconds, .inl (cI, 20, .inl f_a_seconds)), (a_primeSeconds, .inl (cI, 100, .inl f_a_primeSeconds))] t.heap ∧ va_K (dC, dI) vwCl [(cI, .int), (cZ, .boolean)] t ∧ va_D A [(h0, .inr (7, [.int w_h0_number, .int v_x_limit, .ref x_totals, .ref x_points, .ref x_out])), (x_totals, .inl (cI, 20, .inl g_x_totals)), (x_points, .inl (cI, 20, .inl g_x_points)), (x_out, .inl (cZ, 20, .inl g_x_out)), (pRa, .inr (3, [.int v_a_minute, .int v_a_left, .int v_a_primes, .long j_a_lot, .int v_a_foremost, .ref a_rides, .ref a_metres, .ref a_store, .ref a_seconds, .ref a_timesHeld, .ref a_work, .ref a_heldFor, .ref a_primeSeconds, .ref a_orderRows, .ref a_bunches, .ref a_values])), (a_seconds, .inl (cI, 20, .inl f_a_seconds)), (a_primeSeconds, .inl (cI, 100, .inl f_a_primeSeconds))]) A) (([.ref h0, .ref pRa, .int pN] : List Value).toArray) s 0 0 A) (F0 m 34 ls []) := by
      intro n
      induction n with
      | zero =>
        intro i5_L_43 g_x_out_L_43 g_x_points_L_43 g_x_totals_L_43 H locs ls hI0 hI1 hM
        exact absurd hM (by omega)
      | succ n ih =>
        intro i5_L_43 g_x_out_L_43 g_x_points_L_43 g_x_totals_L_43 H locs ls hI0 hI1 hM hP hD hS hl
        have ih_44 := ih
        have hi_45 := hI0
        have hi_46 := hI1
        refine lv_iload hx hb dX7_addStage_34 (lv_at hl 0 rfl) ?_
        refine lv_iload_n hx hb dX7_addStage_36 rfl (lv_at hl 5 rfl) ?_
        refine lv_icmp_ge (tgt := 137) hx hb dX7_addStage_37 (by decide) (fun c_47 => ?_) (fun c_47 => ?_)
        ·
          have c_47 : pN_i ≤ (i5_L_43).toInt := zz_le pN_h rfl c_47
          refine lv_aload_n hx hb dX7_addStage_137 rfl (lv_at hl 3 rfl) ?_
          refine lv_dup hx hb dX7_addStage_138 rfl ?_
          refine va_get (D := (dC, dI)) (ci := 7) (v := .int v_x_number) (C := RX7) (T := TX7) (N := 5) hx hb hts hiX7 hown hK hP 0 rfl rfl 0 (by decide) hw6 (fun _ h9 => h9) rfl dX7_addStage_139 ?_
          refine lv_iconst (v := 1) hx hb dX7_addStage_142 (by decide) ?_
          refine lv_iadd hx hb dX7_addStage_143 ?_
          refine lv_topi (fun v_48 ev_48 => ?_)
          have hv_48 : v_48.toInt = (v_x_number_i + (1:Int)) := by rw [ev_48]; exact zz_addI v_x_number_h (by decide) (by omega) (by omega)
          refine va_put (D := (dC, dI)) (ci := 7) (v := .int v_48) (ty := .int) (C := RX7) (T := TX7) (N := 5) hx hb hts hiX7 tyX7 tyX7_ok nmX7 hown hK hP hD hS 0 rfl rfl 0 (by decide) hw6 (fun _ h9 => h9) rfl (by decide +kernel) rfl rfl (Nat.le_of_ble_eq_true rfl) dX7_addStage_144 (fun H locs hP hD hS => ?_)
          have hP : va_P (dC, dI) vwCl [(h0, .inr (7, [.int v_48, .int v_x_limit, .ref x_totals, .ref x_points, .ref x_out])), (x_totals, .inl (cI, 20, .inl g_x_totals_L_43)), (x_points, .inl (cI, 20, .inl g_x_points_L_43)), (x_out, .inl (cZ, 20, .inl g_x_out_L_43)), (a_primeSeconds, .inl (cI, 100, .inl f_a_primeSeconds)), (pRa, .inr (3, [.int v_a_minute, .int v_a_left, .int v_a_primes, .long j_a_lot, .int v_a_foremost, .ref a_rides, .ref a_metres, .ref a_store, .ref a_seconds, .ref a_timesHeld, .ref a_work, .ref a_heldFor, .ref a_primeSeconds, .ref a_orderRows, .ref a_bunches, .ref a_values])), (a_seconds, .inl (cI, 20, .inl f_a_seconds))] H := hP
          have hD : va_D A [(h0, .inr (7, [.int v_48, .int v_x_limit, .ref x_totals, .ref x_points, .ref x_out])), (x_totals, .inl (cI, 20, .inl g_x_totals_L_43)), (x_points, .inl (cI, 20, .inl g_x_points_L_43)), (x_out, .inl (cZ, 20, .inl g_x_out_L_43)), (a_primeSeconds, .inl (cI, 100, .inl f_a_primeSeconds)), (pRa, .inr (3, [.int v_a_minute, .int v_a_left, .int v_a_primes, .long j_a_lot, .int v_a_foremost, .ref a_rides, .ref a_metres, .ref a_store, .ref a_seconds, .ref a_timesHeld, .ref a_work, .ref a_heldFor, .ref a_primeSeconds, .ref a_orderRows, .ref a_bunches, .ref a_values])), (a_seconds, .inl (cI, 20, .inl f_a_seconds))] := hD
          have hx9_w_h0_number : (v_48 : Int32).toInt = (v_x_number_i + (1:Int)) := hv_48
          have hP9 := hP.sub (ws' := [(h0, .inr (7, [.int v_48, .int v_x_limit, .ref x_totals, .ref x_points, .ref x_out])), (x_totals, .inl (cI, 20, .inl g_x_totals_L_43)), (x_points, .inl (cI, 20, .inl g_x_points_L_43)), (x_out, .inl (cZ, 20, .inl g_x_out_L_43)), (pRa, .inr (3, [.int v_a_minute, .int v_a_left, .int v_a_primes, .long j_a_lot, .int v_a_foremost, .ref a_rides, .ref a_metres, .ref a_store, .ref a_seconds, .ref a_timesHeld, .ref a_work, .ref a_heldFor, .ref a_primeSeconds, .ref a_orderRows, .ref a_bunches, .ref a_values])), (a_seconds, .inl (cI, 20, .inl f_a_seconds)), (a_primeSeconds, .inl (cI, 100, .inl f_a_primeSeconds))]) [0, 1, 2, 3, 5, 6, 4] rfl
          have hD9 := hD.sub (ws' := [(h0, .inr (7, [.int v_48, .int v_x_limit, .ref x_totals, .ref x_points, .ref x_out])), (x_totals, .inl (cI, 20, .inl g_x_totals_L_43)), (x_points, .inl (cI, 20, .inl g_x_points_L_43)), (x_out, .inl (cZ, 20, .inl g_x_out_L_43)), (pRa, .inr (3, [.int v_a_minute, .int v_a_left, .int v_a_primes, .long j_a_lot, .int v_a_foremost, .ref a_rides, .ref a_metres, .ref a_store, .ref a_seconds, .ref a_timesHeld, .ref a_work, .ref a_heldFor, .ref a_primeSeconds, .ref a_orderRows, .ref a_bunches, .ref a_values])), (a_seconds, .inl (cI, 20, .inl f_a_seconds)), (a_primeSeconds, .inl (cI, 100, .inl f_a_primeSeconds))]) [0, 1, 2, 3, 5, 6, 4] (by decide) rfl
          have hf9_0 : v_48.toInt = v_x_number_i + 1 := by omega
          have hf9_1 : 0 ≤ v_48.toInt ∧ v_48.toInt ≤ 20 := by omega
          exact W.vret hx hb hr (fun t ht hW => ⟨⟨(), rfl, trivial, v_48, g_x_totals_L_43, g_x_points_L_43, g_x_out_L_43, hf9_0, hf9_1, by rw [ht]; exact hP9, va_K.moved hW.alike hK, hD9⟩, hS.F ht⟩) hS.2.2 dX7_addStage_147
        ·
          have c_47 : ¬ (pN_i ≤ (i5_L_43).toInt) := zz_len pN_h rfl c_47
          refine lv_iload hx hb dX7_addStage_40 (lv_at hl 0 rfl) ?_
          refine lv_bipush (v := 20) hx hb dX7_addStage_42 (by decide) ?_
          refine lv_icmp_ge (tgt := 137) hx hb dX7_addStage_44 (by decide) (fun c_49 => ?_) (fun c_49 => ?_)
          ·
            have c_49 : (20:Int) ≤ (i5_L_43).toInt := zz_le (by decide) rfl c_49
            exact absurd c_49 (by omega)
          ·
            have c_49 : ¬ ((20:Int) ≤ (i5_L_43).toInt) := zz_len (by decide) rfl c_49
            refine lv_aload_n hx hb dX7_addStage_47 rfl (lv_at hl 4 rfl) ?_
            refine va_get (D := (dC, dI)) (ci := 3) (v := .ref a_seconds) (C := RX3) (T := TX3) (N := 16) hx hb hts hiX3 hown hK hP 5 rfl rfl 8 (by decide) hw4 (fun _ h9 => h9) rfl dX7_addStage_48 ?_
            refine lv_iload hx hb dX7_addStage_51 (lv_at hl 0 rfl) ?_
            refine va_iald hx hb hK hP 6 0 rfl rfl (zz_in (a := (i5_L_43).toInt) rfl (by omega) (by omega)) dX7_addStage_53 ?_
            refine lv_topi (fun v_50 ev_50 => ?_)
            refine lv_istore (lv' := [(6, .int v_50), (5, .int i5_L_43), (4, .int v_6), (3, .int r_1), (0, .ref h0), (1, .ref pRa), (2, .int pN)]) hx hb dX7_addStage_54 hl (by decide) rfl (fun ls hl => ?_)
            refine lv_aload_n hx hb dX7_addStage_56 rfl (lv_at hl 5 rfl) ?_
            refine lv_iload hx hb dX7_addStage_57 (lv_at hl 1 rfl) ?_
            have hPc := hP.sub (ws' := [(pRa, .inr (3, [.int v_a_minute, .int v_a_left, .int v_a_primes, .long j_a_lot, .int v_a_foremost, .ref a_rides, .ref a_metres, .ref a_store, .ref a_seconds, .ref a_timesHeld, .ref a_work, .ref a_heldFor, .ref a_primeSeconds, .ref a_orderRows, .ref a_bunches, .ref a_values])), (a_primeSeconds, .inl (cI, 100, .inl f_a_primeSeconds))]) [5, 4] rfl
            have hDc := hD.sub (ws' := [(pRa, .inr (3, [.int v_a_minute, .int v_a_left, .int v_a_primes, .long j_a_lot, .int v_a_foremost, .ref a_rides, .ref a_metres, .ref a_store, .ref a_seconds, .ref a_timesHeld, .ref a_work, .ref a_heldFor, .ref a_primeSeconds, .ref a_orderRows, .ref a_bunches, .ref a_values])), (a_primeSeconds, .inl (cI, 100, .inl f_a_primeSeconds))]) [5, 4] (by decide) rfl
            have hFc := va_free (wc := [(pRa, .inr (3, [.int v_a_minute, .int v_a_left, .int v_a_primes, .long j_a_lot, .int v_a_foremost, .ref a_rides, .ref a_metres, .ref a_store, .ref a_seconds, .ref a_timesHeld, .ref a_work, .ref a_heldFor, .ref a_primeSeconds, .ref a_orderRows, .ref a_bunches, .ref a_values])), (a_primeSeconds, .inl (cI, 100, .inl f_a_primeSeconds))]) hD hS hA [5, 4] rfl
            refine va_calli (va_runV (As := [.int i5_L_43]) (rest := []) ⟨hx, hb, hml, hown, hts⟩ (c_X3_primePointsOf l dC dI cI cZ (H).size pRa i5_L_43 ((i5_L_43).toInt) rfl (by omega) v_a_minute v_a_minute_i v_a_minute_h v_a_left v_a_left_i v_a_left_h v_a_primes v_a_primes_i v_a_primes_h (by omega) j_a_lot v_a_foremost v_a_foremost_i v_a_foremost_h a_rides a_metres a_store a_seconds a_timesHeld a_work a_heldFor a_primeSeconds a_orderRows a_bunches a_values f_a_primeSeconds) ⟨callB_of 1 hts (zz_good zw_613) rfl rfl rfl hw0 hw7 (by decide +kernel) ⟨Nat.le_of_ble_eq_true rfl, Nat.le_of_ble_eq_true rfl⟩, hw8, hw9⟩ ⟨fun a U g mk q => by obtain ⟨q0, q1, qP, qK, qD⟩ := q; exact ⟨q0, q1, qP, va_K.moved (u := U) (U := U.calling g mk a) (Vm.Alike.refl U.vm) qK, qD⟩, va_recv hK hPc (ci := 3) (q0 := 0) rfl rfl, fun U hU hW => ⟨rfl, by rw [hU], by rw [hU]; exact hPc, va_K.moved hW.alike hK, hDc.weaken (fun _ _ _ _ => trivial)⟩⟩ rfl rfl hl.1 rfl (lv_room (Nat.le_of_ble_eq_true rfl)) dX7_addStage_59 ⟨Nat.le_of_ble_eq_true rfl, Nat.le_of_ble_eq_true rfl⟩) hS (fun q _ h => hFc q h) hFc (fun r_51 u t H1 locs ht hvm hpost hB hz1 hk1 hS => ?_)
            subst hpost
            obtain ⟨hP1, hK1, hD1⟩ := hB
            rw [ht] at hP1
            obtain ⟨hP, hD⟩ := va_join (wr := [(h0, .inr (7, [.int v_x_number, .int v_x_limit, .ref x_totals, .ref x_points, .ref x_out])), (x_totals, .inl (cI, 20, .inl g_x_totals_L_43)), (x_points, .inl (cI, 20, .inl g_x_points_L_43)), (x_out, .inl (cZ, 20, .inl g_x_out_L_43)), (a_seconds, .inl (cI, 20, .inl f_a_seconds))]) (w1 := [(pRa, .inr (3, [.int v_a_minute, .int v_a_left, .int v_a_primes, .long j_a_lot, .int v_a_foremost, .ref a_rides, .ref a_metres, .ref a_store, .ref a_seconds, .ref a_timesHeld, .ref a_work, .ref a_heldFor, .ref a_primeSeconds, .ref a_orderRows, .ref a_bunches, .ref a_values])), (a_primeSeconds, .inl (cI, 100, .inl f_a_primeSeconds))]) hP hD [5, 4] [0, 1, 2, 3, 6] rfl rfl (by decide) (by decide) hk1 hFc hP1 hD1
            generalize H1 = H at hP hS ⊢
            have hP : va_P (dC, dI) vwCl [(h0, .inr (7, [.int v_x_number, .int v_x_limit, .ref x_totals, .ref x_points, .ref x_out])), (x_totals, .inl (cI, 20, .inl g_x_totals_L_43)), (x_points, .inl (cI, 20, .inl g_x_points_L_43)), (x_out, .inl (cZ, 20, .inl g_x_out_L_43)), (a_seconds, .inl (cI, 20, .inl f_a_seconds)), (pRa, .inr (3, [.int v_a_minute, .int v_a_left, .int v_a_primes, .long j_a_lot, .int v_a_foremost, .ref a_rides, .ref a_metres, .ref a_store, .ref a_seconds, .ref a_timesHeld, .ref a_work, .ref a_heldFor, .ref a_primeSeconds, .ref a_orderRows, .ref a_bunches, .ref a_values])), (a_primeSeconds, .inl (cI, 100, .inl f_a_primeSeconds))] H := hP
            have hD : va_D A [(h0, .inr (7, [.int v_x_number, .int v_x_limit, .ref x_totals, .ref x_points, .ref x_out])), (x_totals, .inl (cI, 20, .inl g_x_totals_L_43)), (x_points, .inl (cI, 20, .inl g_x_points_L_43)), (x_out, .inl (cZ, 20, .inl g_x_out_L_43)), (a_seconds, .inl (cI, 20, .inl f_a_seconds)), (pRa, .inr (3, [.int v_a_minute, .int v_a_left, .int v_a_primes, .long j_a_lot, .int v_a_foremost, .ref a_rides, .ref a_metres, .ref a_store, .ref a_seconds, .ref a_timesHeld, .ref a_work, .ref a_heldFor, .ref a_primeSeconds, .ref a_orderRows, .ref a_bunches, .ref a_values])), (a_primeSeconds, .inl (cI, 100, .inl f_a_primeSeconds))] := hD
            refine lv_istore (lv' := [(7, .int r_51), (6, .int v_50), (5, .int i5_L_43), (4, .int v_6), (3, .int r_1), (0, .ref h0), (1, .ref pRa), (2, .int pN)]) hx hb dX7_addStage_62 hl (by decide) rfl (fun ls hl => ?_)
            refine lv_aload_n hx hb dX7_addStage_64 rfl (lv_at hl 5 rfl) ?_
            refine va_get (D := (dC, dI)) (ci := 7) (v := .ref x_points) (C := RX7) (T := TX7) (N := 5) hx hb hts hiX7 hown hK hP 0 rfl rfl 3 (by decide) hw10 (fun _ h9 => h9) rfl dX7_addStage_65 ?_
            refine lv_iload hx hb dX7_addStage_68 (lv_at hl 2 rfl) ?_
            refine lv_dup2_11 hx hb dX7_addStage_70 rfl rfl ?_
            refine va_iald hx hb hK hP 2 0 rfl rfl (zz_in (a := (i5_L_43).toInt) rfl (by omega) (by omega)) dX7_addStage_71 ?_
            refine lv_topi (fun v_52 ev_52 => ?_)
            refine lv_iload hx hb dX7_addStage_72 (lv_at hl 0 rfl) ?_
            refine lv_aload_n hx hb dX7_addStage_74 rfl (lv_at hl 6 rfl) ?_
            refine lv_iload hx hb dX7_addStage_75 (lv_at hl 2 rfl) ?_
            have hPc := hP.sub (ws' := [(pRa, .inr (3, [.int v_a_minute, .int v_a_left, .int v_a_primes, .long j_a_lot, .int v_a_foremost, .ref a_rides, .ref a_metres, .ref a_store, .ref a_seconds, .ref a_timesHeld, .ref a_work, .ref a_heldFor, .ref a_primeSeconds, .ref a_orderRows, .ref a_bunches, .ref a_values])), (a_seconds, .inl (cI, 20, .inl f_a_seconds))]) [5, 4] rfl
            have hDc := hD.sub (ws' := [(pRa, .inr (3, [.int v_a_minute, .int v_a_left, .int v_a_primes, .long j_a_lot, .int v_a_foremost, .ref a_rides, .ref a_metres, .ref a_store, .ref a_seconds, .ref a_timesHeld, .ref a_work, .ref a_heldFor, .ref a_primeSeconds, .ref a_orderRows, .ref a_bunches, .ref a_values])), (a_seconds, .inl (cI, 20, .inl f_a_seconds))]) [5, 4] (by decide) rfl
            have hFc := va_free (wc := [(pRa, .inr (3, [.int v_a_minute, .int v_a_left, .int v_a_primes, .long j_a_lot, .int v_a_foremost, .ref a_rides, .ref a_metres, .ref a_store, .ref a_seconds, .ref a_timesHeld, .ref a_work, .ref a_heldFor, .ref a_primeSeconds, .ref a_orderRows, .ref a_bunches, .ref a_values])), (a_seconds, .inl (cI, 20, .inl f_a_seconds))]) hD hS hA [5, 4] rfl
            refine va_calli (va_runV (As := [.int i5_L_43]) (rest := [.int r_51, .int v_52, .int i5_L_43, .ref x_points]) ⟨hx, hb, hml, hown, hts⟩ (c_X3_placeOf l dC dI cI cZ (H).size pRa i5_L_43 ((i5_L_43).toInt) rfl (by omega) v_a_minute v_a_minute_i v_a_minute_h v_a_left v_a_left_i v_a_left_h v_a_primes v_a_primes_i v_a_primes_h (by omega) j_a_lot v_a_foremost v_a_foremost_i v_a_foremost_h a_rides a_metres a_store a_seconds a_timesHeld a_work a_heldFor a_primeSeconds a_orderRows a_bunches a_values f_a_seconds) ⟨callB_of 1 hts (zz_good zw_606) rfl rfl rfl hw0 hw11 (by decide +kernel) ⟨Nat.le_of_ble_eq_true rfl, Nat.le_of_ble_eq_true rfl⟩, hw12, hw13⟩ ⟨fun a U g mk q => by obtain ⟨q0, q1, qP, qK, qD⟩ := q; exact ⟨q0, q1, qP, va_K.moved (u := U) (U := U.calling g mk a) (Vm.Alike.refl U.vm) qK, qD⟩, va_recv hK hPc (ci := 3) (q0 := 0) rfl rfl, fun U hU hW => ⟨rfl, by rw [hU], by rw [hU]; exact hPc, va_K.moved hW.alike hK, hDc.weaken (fun _ _ _ _ => trivial)⟩⟩ rfl rfl hl.1 rfl (lv_room (Nat.le_of_ble_eq_true rfl)) dX7_addStage_77 ⟨Nat.le_of_ble_eq_true rfl, Nat.le_of_ble_eq_true rfl⟩) hS (fun q _ h => hFc q h) hFc (fun r_53 u t H1 locs ht hvm hpost hB hz1 hk1 hS => ?_)
            subst hpost
            obtain ⟨hP1, hK1, hD1⟩ := hB
            rw [ht] at hP1
            obtain ⟨hP, hD⟩ := va_join (wr := [(h0, .inr (7, [.int v_x_number, .int v_x_limit, .ref x_totals, .ref x_points, .ref x_out])), (x_totals, .inl (cI, 20, .inl g_x_totals_L_43)), (x_points, .inl (cI, 20, .inl g_x_points_L_43)), (x_out, .inl (cZ, 20, .inl g_x_out_L_43)), (a_primeSeconds, .inl (cI, 100, .inl f_a_primeSeconds))]) (w1 := [(pRa, .inr (3, [.int v_a_minute, .int v_a_left, .int v_a_primes, .long j_a_lot, .int v_a_foremost, .ref a_rides, .ref a_metres, .ref a_store, .ref a_seconds, .ref a_timesHeld, .ref a_work, .ref a_heldFor, .ref a_primeSeconds, .ref a_orderRows, .ref a_bunches, .ref a_values])), (a_seconds, .inl (cI, 20, .inl f_a_seconds))]) hP hD [5, 4] [0, 1, 2, 3, 6] rfl rfl (by decide) (by decide) hk1 hFc hP1 hD1
            generalize H1 = H at hP hS ⊢
            have hP : va_P (dC, dI) vwCl [(h0, .inr (7, [.int v_x_number, .int v_x_limit, .ref x_totals, .ref x_points, .ref x_out])), (x_totals, .inl (cI, 20, .inl g_x_totals_L_43)), (x_points, .inl (cI, 20, .inl g_x_points_L_43)), (x_out, .inl (cZ, 20, .inl g_x_out_L_43)), (a_primeSeconds, .inl (cI, 100, .inl f_a_primeSeconds)), (pRa, .inr (3, [.int v_a_minute, .int v_a_left, .int v_a_primes, .long j_a_lot, .int v_a_foremost, .ref a_rides, .ref a_metres, .ref a_store, .ref a_seconds, .ref a_timesHeld, .ref a_work, .ref a_heldFor, .ref a_primeSeconds, .ref a_orderRows, .ref a_bunches, .ref a_values])), (a_seconds, .inl (cI, 20, .inl f_a_seconds))] H := hP
            have hD : va_D A [(h0, .inr (7, [.int v_x_number, .int v_x_limit, .ref x_totals, .ref x_points, .ref x_out])), (x_totals, .inl (cI, 20, .inl g_x_totals_L_43)), (x_points, .inl (cI, 20, .inl g_x_points_L_43)), (x_out, .inl (cZ, 20, .inl g_x_out_L_43)), (a_primeSeconds, .inl (cI, 100, .inl f_a_primeSeconds)), (pRa, .inr (3, [.int v_a_minute, .int v_a_left, .int v_a_primes, .long j_a_lot, .int v_a_foremost, .ref a_rides, .ref a_metres, .ref a_store, .ref a_seconds, .ref a_timesHeld, .ref a_work, .ref a_heldFor, .ref a_primeSeconds, .ref a_orderRows, .ref a_bunches, .ref a_values])), (a_seconds, .inl (cI, 20, .inl f_a_seconds))] := hD
            have hPc := hP.sub (ws' := []) [] rfl
            have hDc := hD.sub (ws' := []) [] (by decide) rfl
            have hFc := va_free (wc := []) hD hS hA [] rfl
            refine va_calli (va_runS (As := [.int r_53]) (rest := [.int r_51, .int v_52, .int i5_L_43, .ref x_points]) ⟨hx, hb, hml, hown, hts⟩ (c_X7_stagePoints l dC dI cI cZ (H).size tS r_53 ((r_53).toInt) rfl) ⟨callB_of 1 hts (zz_good zw_658) rfl rfl rfl hw14 hw15 (by decide +kernel) ⟨Nat.le_of_ble_eq_true rfl, Nat.le_of_ble_eq_true rfl⟩, hw16⟩ ⟨fun a U g mk q => by obtain ⟨q0, q1, qP, qK, qD, qZ⟩ := q; exact ⟨q0, q1, qP, va_K.moved (u := U) (U := U.calling g mk a) (Vm.Alike.refl U.vm) qK, qD, zS_blind rfl rfl qZ⟩, fun U hU hW => ⟨rfl, by rw [hU], by rw [hU]; exact hPc, va_K.moved hW.alike hK, hDc.weaken (fun _ _ _ _ => trivial), zS_call hZ hS hFc hU hW⟩⟩ rfl rfl hl.1 rfl (lv_room (Nat.le_of_ble_eq_true rfl)) dX7_addStage_80 ⟨Nat.le_of_ble_eq_true rfl, Nat.le_of_ble_eq_true rfl⟩) hS (fun q _ h => hFc q h) hFc (fun r_54 u t H1 locs ht hvm hpost hB hz1 hk1 hS => ?_)
            subst hpost
            obtain ⟨hP1, hK1, hD1⟩ := hB
            rw [ht] at hP1
            obtain ⟨hP, hD⟩ := va_join (wr := [(h0, .inr (7, [.int v_x_number, .int v_x_limit, .ref x_totals, .ref x_points, .ref x_out])), (x_totals, .inl (cI, 20, .inl g_x_totals_L_43)), (x_points, .inl (cI, 20, .inl g_x_points_L_43)), (x_out, .inl (cZ, 20, .inl g_x_out_L_43)), (a_primeSeconds, .inl (cI, 100, .inl f_a_primeSeconds)), (pRa, .inr (3, [.int v_a_minute, .int v_a_left, .int v_a_primes, .long j_a_lot, .int v_a_foremost, .ref a_rides, .ref a_metres, .ref a_store, .ref a_seconds, .ref a_timesHeld, .ref a_work, .ref a_heldFor, .ref a_primeSeconds, .ref a_orderRows, .ref a_bunches, .ref a_values])), (a_seconds, .inl (cI, 20, .inl f_a_seconds))]) (w1 := []) hP hD [] [0, 1, 2, 3, 4, 5, 6] rfl rfl (by decide) (by decide) hk1 hFc hP1 hD1
            generalize H1 = H at hP hS ⊢
            have hP : va_P (dC, dI) vwCl [(h0, .inr (7, [.int v_x_number, .int v_x_limit, .ref x_totals, .ref x_points, .ref x_out])), (x_totals, .inl (cI, 20, .inl g_x_totals_L_43)), (x_points, .inl (cI, 20, .inl g_x_points_L_43)), (x_out, .inl (cZ, 20, .inl g_x_out_L_43)), (a_primeSeconds, .inl (cI, 100, .inl f_a_primeSeconds)), (pRa, .inr (3, [.int v_a_minute, .int v_a_left, .int v_a_primes, .long j_a_lot, .int v_a_foremost, .ref a_rides, .ref a_metres, .ref a_store, .ref a_seconds, .ref a_timesHeld, .ref a_work, .ref a_heldFor, .ref a_primeSeconds, .ref a_orderRows, .ref a_bunches, .ref a_values])), (a_seconds, .inl (cI, 20, .inl f_a_seconds))] H := hP
            have hD : va_D A [(h0, .inr (7, [.int v_x_number, .int v_x_limit, .ref x_totals, .ref x_points, .ref x_out])), (x_totals, .inl (cI, 20, .inl g_x_totals_L_43)), (x_points, .inl (cI, 20, .inl g_x_points_L_43)), (x_out, .inl (cZ, 20, .inl g_x_out_L_43)), (a_primeSeconds, .inl (cI, 100, .inl f_a_primeSeconds)), (pRa, .inr (3, [.int v_a_minute, .int v_a_left, .int v_a_primes, .long j_a_lot, .int v_a_foremost, .ref a_rides, .ref a_metres, .ref a_store, .ref a_seconds, .ref a_timesHeld, .ref a_work, .ref a_heldFor, .ref a_primeSeconds, .ref a_orderRows, .ref a_bunches, .ref a_values])), (a_seconds, .inl (cI, 20, .inl f_a_seconds))] := hD
            refine lv_iadd hx hb dX7_addStage_83 ?_
            refine lv_topi (fun v_55 _ => ?_)
            refine lv_iadd hx hb dX7_addStage_84 ?_
            refine lv_topi (fun v_56 _ => ?_)
            refine va_iast hx hb hK hP hD hS 2 0 rfl rfl (zz_in (a := (i5_L_43).toInt) rfl (by omega) (by omega)) dX7_addStage_85 (fun H locs hP hD hS => ?_)
            have hP : va_P (dC, dI) vwCl [(h0, .inr (7, [.int v_x_number, .int v_x_limit, .ref x_totals, .ref x_points, .ref x_out])), (x_totals, .inl (cI, 20, .inl g_x_totals_L_43)), (x_points, .inl (cI, 20, .inl (upd g_x_points_L_43 (Int32.toNatClampNeg i5_L_43) v_56))), (x_out, .inl (cZ, 20, .inl g_x_out_L_43)), (a_primeSeconds, .inl (cI, 100, .inl f_a_primeSeconds)), (pRa, .inr (3, [.int v_a_minute, .int v_a_left, .int v_a_primes, .long j_a_lot, .int v_a_foremost, .ref a_rides, .ref a_metres, .ref a_store, .ref a_seconds, .ref a_timesHeld, .ref a_work, .ref a_heldFor, .ref a_primeSeconds, .ref a_orderRows, .ref a_bunches, .ref a_values])), (a_seconds, .inl (cI, 20, .inl f_a_seconds))] H := hP
            have hD : va_D A [(h0, .inr (7, [.int v_x_number, .int v_x_limit, .ref x_totals, .ref x_points, .ref x_out])), (x_totals, .inl (cI, 20, .inl g_x_totals_L_43)), (x_points, .inl (cI, 20, .inl (upd g_x_points_L_43 (Int32.toNatClampNeg i5_L_43) v_56))), (x_out, .inl (cZ, 20, .inl g_x_out_L_43)), (a_primeSeconds, .inl (cI, 100, .inl f_a_primeSeconds)), (pRa, .inr (3, [.int v_a_minute, .int v_a_left, .int v_a_primes, .long j_a_lot, .int v_a_foremost, .ref a_rides, .ref a_metres, .ref a_store, .ref a_seconds, .ref a_timesHeld, .ref a_work, .ref a_heldFor, .ref a_primeSeconds, .ref a_orderRows, .ref a_bunches, .ref a_values])), (a_seconds, .inl (cI, 20, .inl f_a_seconds))] := hD
            generalize upd g_x_points_L_43 (Int32.toNatClampNeg i5_L_43) v_56 = f_57 at hP hD
            refine lv_iload hx hb dX7_addStage_86 (lv_at hl 1 rfl) ?_
            refine lv_iconst (v := (-1)) hx hb dX7_addStage_88 (by decide) ?_
            refine lv_icmp_eq (tgt := 107) hx hb dX7_addStage_89 (by decide) (fun c_58 => ?_) (fun c_58 => ?_)
            ·
              have c_58 : (v_50).toInt = (-1:Int) := zz_eq rfl (by decide) c_58
              refine lv_iload hx hb dX7_addStage_107 (lv_at hl 1 rfl) ?_
              refine lv_iconst (v := (-1)) hx hb dX7_addStage_109 (by decide) ?_
              refine lv_icmp_eq (tgt := 123) hx hb dX7_addStage_110 (by decide) (fun c_59 => ?_) (fun c_59 => ?_)
              ·
                have c_59 : (v_50).toInt = (-1:Int) := zz_eq rfl (by decide) c_59
                refine lv_aload_n hx hb dX7_addStage_123 rfl (lv_at hl 5 rfl) ?_
                refine va_get (D := (dC, dI)) (ci := 7) (v := .ref x_out) (C := RX7) (T := TX7) (N := 5) hx hb hts hiX7 hown hK hP 0 rfl rfl 4 (by decide) hw17 (fun _ h9 => h9) rfl dX7_addStage_124 ?_
                refine lv_iload hx hb dX7_addStage_127 (lv_at hl 2 rfl) ?_
                refine lv_iconst (v := 1) hx hb dX7_addStage_129 (by decide) ?_
                refine va_zast hx hb hK hP hD hS 3 1 rfl rfl (zz_in (a := (i5_L_43).toInt) rfl (by omega) (by omega)) dX7_addStage_130 (fun H locs hP hD hS => ?_)
                have hP : va_P (dC, dI) vwCl [(h0, .inr (7, [.int v_x_number, .int v_x_limit, .ref x_totals, .ref x_points, .ref x_out])), (x_totals, .inl (cI, 20, .inl g_x_totals_L_43)), (x_points, .inl (cI, 20, .inl f_57)), (x_out, .inl (cZ, 20, .inl (upd g_x_out_L_43 (Int32.toNatClampNeg i5_L_43) (vp_nar .boolean 1)))), (a_primeSeconds, .inl (cI, 100, .inl f_a_primeSeconds)), (pRa, .inr (3, [.int v_a_minute, .int v_a_left, .int v_a_primes, .long j_a_lot, .int v_a_foremost, .ref a_rides, .ref a_metres, .ref a_store, .ref a_seconds, .ref a_timesHeld, .ref a_work, .ref a_heldFor, .ref a_primeSeconds, .ref a_orderRows, .ref a_bunches, .ref a_values])), (a_seconds, .inl (cI, 20, .inl f_a_seconds))] H := hP
                have hD : va_D A [(h0, .inr (7, [.int v_x_number, .int v_x_limit, .ref x_totals, .ref x_points, .ref x_out])), (x_totals, .inl (cI, 20, .inl g_x_totals_L_43)), (x_points, .inl (cI, 20, .inl f_57)), (x_out, .inl (cZ, 20, .inl (upd g_x_out_L_43 (Int32.toNatClampNeg i5_L_43) (vp_nar .boolean 1)))), (a_primeSeconds, .inl (cI, 100, .inl f_a_primeSeconds)), (pRa, .inr (3, [.int v_a_minute, .int v_a_left, .int v_a_primes, .long j_a_lot, .int v_a_foremost, .ref a_rides, .ref a_metres, .ref a_store, .ref a_seconds, .ref a_timesHeld, .ref a_work, .ref a_heldFor, .ref a_primeSeconds, .ref a_orderRows, .ref a_bunches, .ref a_values])), (a_seconds, .inl (cI, 20, .inl f_a_seconds))] := hD
                generalize upd g_x_out_L_43 (Int32.toNatClampNeg i5_L_43) (vp_nar .boolean 1) = f_60 at hP hD
                obtain ⟨v_61, ev_61⟩ : ∃ y : Int32, y = i5_L_43 + 1 := ⟨_, rfl⟩
                have hv_61 : v_61.toInt = ((i5_L_43).toInt + (1:Int)) := by rw [ev_61]; exact zz_addI rfl (by decide) (by omega) (by omega)
                refine lv_iinc (v := v_61) (lv' := [(5, .int v_61), (7, .int r_51), (6, .int v_50), (4, .int v_6), (3, .int r_1), (0, .ref h0), (1, .ref pRa), (2, .int pN)]) hx hb dX7_addStage_131 hl (k := 2) rfl (by rw [ev_61]; rfl) (by decide) rfl (fun ls hl => ?_)
                refine lv_goto (tgt := 34) hx hb dX7_addStage_134 (by decide) ?_
                have hb_62_i5_L_43 : (v_61 : Int32).toInt = ((i5_L_43).toInt + (1:Int)) := hv_61
                exact ih_44 v_61 f_60 f_57 g_x_totals_L_43 H locs ls (by omega) (by omega) (by omega) (hP.sub [0, 1, 2, 3, 4, 5, 6] rfl) (hD.sub [0, 1, 2, 3, 4, 5, 6] (by decide) rfl) hS (lv_sub hl [0, 3, 4, 5, 6, 7] rfl)
              ·
                have c_59 : ¬ ((v_50).toInt = (-1:Int)) := zz_eqn rfl (by decide) c_59
                refine lv_iload hx hb dX7_addStage_113 (lv_at hl 1 rfl) ?_
                refine lv_bipush (v := 100) hx hb dX7_addStage_115 (by decide) ?_
                refine lv_imul hx hb dX7_addStage_117 ?_
                refine lv_topi (fun v_63 ev_63 => ?_)
                have hv_63 : v_63.toInt = ((v_50).toInt * (100:Int)) := by rw [ev_63]; exact zz_mulI rfl (by decide) (by omega) (by omega)
                refine lv_iload hx hb dX7_addStage_118 (lv_at hl 3 rfl) ?_
                refine lv_icmp_le (tgt := 131) hx hb dX7_addStage_120 (by decide) (fun c_64 => ?_) (fun c_64 => ?_)
                ·
                  have c_64 : ((v_50).toInt * (100:Int)) ≤ (v_6).toInt := zz_le hv_63 rfl c_64
                  obtain ⟨v_65, ev_65⟩ : ∃ y : Int32, y = i5_L_43 + 1 := ⟨_, rfl⟩
                  have hv_65 : v_65.toInt = ((i5_L_43).toInt + (1:Int)) := by rw [ev_65]; exact zz_addI rfl (by decide) (by omega) (by omega)
                  refine lv_iinc (v := v_65) (lv' := [(5, .int v_65), (7, .int r_51), (6, .int v_50), (4, .int v_6), (3, .int r_1), (0, .ref h0), (1, .ref pRa), (2, .int pN)]) hx hb dX7_addStage_131 hl (k := 2) rfl (by rw [ev_65]; rfl) (by decide) rfl (fun ls hl => ?_)
                  refine lv_goto (tgt := 34) hx hb dX7_addStage_134 (by decide) ?_
                  have hb_66_i5_L_43 : (v_65 : Int32).toInt = ((i5_L_43).toInt + (1:Int)) := hv_65
                  exact ih_44 v_65 g_x_out_L_43 f_57 g_x_totals_L_43 H locs ls (by omega) (by omega) (by omega) (hP.sub [0, 1, 2, 3, 4, 5, 6] rfl) (hD.sub [0, 1, 2, 3, 4, 5, 6] (by decide) rfl) hS (lv_sub hl [0, 3, 4, 5, 6, 7] rfl)
                ·
                  have c_64 : ¬ (((v_50).toInt * (100:Int)) ≤ (v_6).toInt) := zz_len hv_63 rfl c_64
                  refine lv_aload_n hx hb dX7_addStage_123 rfl (lv_at hl 5 rfl) ?_
                  refine va_get (D := (dC, dI)) (ci := 7) (v := .ref x_out) (C := RX7) (T := TX7) (N := 5) hx hb hts hiX7 hown hK hP 0 rfl rfl 4 (by decide) hw17 (fun _ h9 => h9) rfl dX7_addStage_124 ?_
                  refine lv_iload hx hb dX7_addStage_127 (lv_at hl 2 rfl) ?_
                  refine lv_iconst (v := 1) hx hb dX7_addStage_129 (by decide) ?_
                  refine va_zast hx hb hK hP hD hS 3 1 rfl rfl (zz_in (a := (i5_L_43).toInt) rfl (by omega) (by omega)) dX7_addStage_130 (fun H locs hP hD hS => ?_)
                  have hP : va_P (dC, dI) vwCl [(h0, .inr (7, [.int v_x_number, .int v_x_limit, .ref x_totals, .ref x_points, .ref x_out])), (x_totals, .inl (cI, 20, .inl g_x_totals_L_43)), (x_points, .inl (cI, 20, .inl f_57)), (x_out, .inl (cZ, 20, .inl (upd g_x_out_L_43 (Int32.toNatClampNeg i5_L_43) (vp_nar .boolean 1)))), (a_primeSeconds, .inl (cI, 100, .inl f_a_primeSeconds)), (pRa, .inr (3, [.int v_a_minute, .int v_a_left, .int v_a_primes, .long j_a_lot, .int v_a_foremost, .ref a_rides, .ref a_metres, .ref a_store, .ref a_seconds, .ref a_timesHeld, .ref a_work, .ref a_heldFor, .ref a_primeSeconds, .ref a_orderRows, .ref a_bunches, .ref a_values])), (a_seconds, .inl (cI, 20, .inl f_a_seconds))] H := hP
                  have hD : va_D A [(h0, .inr (7, [.int v_x_number, .int v_x_limit, .ref x_totals, .ref x_points, .ref x_out])), (x_totals, .inl (cI, 20, .inl g_x_totals_L_43)), (x_points, .inl (cI, 20, .inl f_57)), (x_out, .inl (cZ, 20, .inl (upd g_x_out_L_43 (Int32.toNatClampNeg i5_L_43) (vp_nar .boolean 1)))), (a_primeSeconds, .inl (cI, 100, .inl f_a_primeSeconds)), (pRa, .inr (3, [.int v_a_minute, .int v_a_left, .int v_a_primes, .long j_a_lot, .int v_a_foremost, .ref a_rides, .ref a_metres, .ref a_store, .ref a_seconds, .ref a_timesHeld, .ref a_work, .ref a_heldFor, .ref a_primeSeconds, .ref a_orderRows, .ref a_bunches, .ref a_values])), (a_seconds, .inl (cI, 20, .inl f_a_seconds))] := hD
                  generalize upd g_x_out_L_43 (Int32.toNatClampNeg i5_L_43) (vp_nar .boolean 1) = f_67 at hP hD
                  obtain ⟨v_68, ev_68⟩ : ∃ y : Int32, y = i5_L_43 + 1 := ⟨_, rfl⟩
                  have hv_68 : v_68.toInt = ((i5_L_43).toInt + (1:Int)) := by rw [ev_68]; exact zz_addI rfl (by decide) (by omega) (by omega)
                  refine lv_iinc (v := v_68) (lv' := [(5, .int v_68), (7, .int r_51), (6, .int v_50), (4, .int v_6), (3, .int r_1), (0, .ref h0), (1, .ref pRa), (2, .int pN)]) hx hb dX7_addStage_131 hl (k := 2) rfl (by rw [ev_68]; rfl) (by decide) rfl (fun ls hl => ?_)
                  refine lv_goto (tgt := 34) hx hb dX7_addStage_134 (by decide) ?_
                  have hb_69_i5_L_43 : (v_68 : Int32).toInt = ((i5_L_43).toInt + (1:Int)) := hv_68
                  exact ih_44 v_68 f_67 f_57 g_x_totals_L_43 H locs ls (by omega) (by omega) (by omega) (hP.sub [0, 1, 2, 3, 4, 5, 6] rfl) (hD.sub [0, 1, 2, 3, 4, 5, 6] (by decide) rfl) hS (lv_sub hl [0, 3, 4, 5, 6, 7] rfl)
            ·
              have c_58 : ¬ ((v_50).toInt = (-1:Int)) := zz_eqn rfl (by decide) c_58
              refine lv_aload_n hx hb dX7_addStage_92 rfl (lv_at hl 5 rfl) ?_
              refine va_get (D := (dC, dI)) (ci := 7) (v := .ref x_totals) (C := RX7) (T := TX7) (N := 5) hx hb hts hiX7 hown hK hP 0 rfl rfl 2 (by decide) hw18 (fun _ h9 => h9) rfl dX7_addStage_93 ?_
              refine lv_iload hx hb dX7_addStage_96 (lv_at hl 2 rfl) ?_
              refine lv_dup2_11 hx hb dX7_addStage_98 rfl rfl ?_
              refine va_iald hx hb hK hP 1 0 rfl rfl (zz_in (a := (i5_L_43).toInt) rfl (by omega) (by omega)) dX7_addStage_99 ?_
              refine lv_topi (fun v_70 ev_70 => ?_)
              refine lv_iload hx hb dX7_addStage_100 (lv_at hl 1 rfl) ?_
              refine lv_iload hx hb dX7_addStage_102 (lv_at hl 0 rfl) ?_
              refine lv_isub hx hb dX7_addStage_104 ?_
              refine lv_topi (fun v_71 _ => ?_)
              refine lv_iadd hx hb dX7_addStage_105 ?_
              refine lv_topi (fun v_72 _ => ?_)
              refine va_iast hx hb hK hP hD hS 1 0 rfl rfl (zz_in (a := (i5_L_43).toInt) rfl (by omega) (by omega)) dX7_addStage_106 (fun H locs hP hD hS => ?_)
              have hP : va_P (dC, dI) vwCl [(h0, .inr (7, [.int v_x_number, .int v_x_limit, .ref x_totals, .ref x_points, .ref x_out])), (x_totals, .inl (cI, 20, .inl (upd g_x_totals_L_43 (Int32.toNatClampNeg i5_L_43) v_72))), (x_points, .inl (cI, 20, .inl f_57)), (x_out, .inl (cZ, 20, .inl g_x_out_L_43)), (a_primeSeconds, .inl (cI, 100, .inl f_a_primeSeconds)), (pRa, .inr (3, [.int v_a_minute, .int v_a_left, .int v_a_primes, .long j_a_lot, .int v_a_foremost, .ref a_rides, .ref a_metres, .ref a_store, .ref a_seconds, .ref a_timesHeld, .ref a_work, .ref a_heldFor, .ref a_primeSeconds, .ref a_orderRows, .ref a_bunches, .ref a_values])), (a_seconds, .inl (cI, 20, .inl f_a_seconds))] H := hP
              have hD : va_D A [(h0, .inr (7, [.int v_x_number, .int v_x_limit, .ref x_totals, .ref x_points, .ref x_out])), (x_totals, .inl (cI, 20, .inl (upd g_x_totals_L_43 (Int32.toNatClampNeg i5_L_43) v_72))), (x_points, .inl (cI, 20, .inl f_57)), (x_out, .inl (cZ, 20, .inl g_x_out_L_43)), (a_primeSeconds, .inl (cI, 100, .inl f_a_primeSeconds)), (pRa, .inr (3, [.int v_a_minute, .int v_a_left, .int v_a_primes, .long j_a_lot, .int v_a_foremost, .ref a_rides, .ref a_metres, .ref a_store, .ref a_seconds, .ref a_timesHeld, .ref a_work, .ref a_heldFor, .ref a_primeSeconds, .ref a_orderRows, .ref a_bunches, .ref a_values])), (a_seconds, .inl (cI, 20, .inl f_a_seconds))] := hD
              generalize upd g_x_totals_L_43 (Int32.toNatClampNeg i5_L_43) v_72 = f_73 at hP hD
              refine lv_iload hx hb dX7_addStage_107 (lv_at hl 1 rfl) ?_
              refine lv_iconst (v := (-1)) hx hb dX7_addStage_109 (by decide) ?_
              refine lv_icmp_eq (tgt := 123) hx hb dX7_addStage_110 (by decide) (fun c_74 => ?_) (fun c_74 => ?_)
              ·
                have c_74 : (v_50).toInt = (-1:Int) := zz_eq rfl (by decide) c_74
                refine lv_aload_n hx hb dX7_addStage_123 rfl (lv_at hl 5 rfl) ?_
                refine va_get (D := (dC, dI)) (ci := 7) (v := .ref x_out) (C := RX7) (T := TX7) (N := 5) hx hb hts hiX7 hown hK hP 0 rfl rfl 4 (by decide) hw17 (fun _ h9 => h9) rfl dX7_addStage_124 ?_
                refine lv_iload hx hb dX7_addStage_127 (lv_at hl 2 rfl) ?_
                refine lv_iconst (v := 1) hx hb dX7_addStage_129 (by decide) ?_
                refine va_zast hx hb hK hP hD hS 3 1 rfl rfl (zz_in (a := (i5_L_43).toInt) rfl (by omega) (by omega)) dX7_addStage_130 (fun H locs hP hD hS => ?_)
                have hP : va_P (dC, dI) vwCl [(h0, .inr (7, [.int v_x_number, .int v_x_limit, .ref x_totals, .ref x_points, .ref x_out])), (x_totals, .inl (cI, 20, .inl f_73)), (x_points, .inl (cI, 20, .inl f_57)), (x_out, .inl (cZ, 20, .inl (upd g_x_out_L_43 (Int32.toNatClampNeg i5_L_43) (vp_nar .boolean 1)))), (a_primeSeconds, .inl (cI, 100, .inl f_a_primeSeconds)), (pRa, .inr (3, [.int v_a_minute, .int v_a_left, .int v_a_primes, .long j_a_lot, .int v_a_foremost, .ref a_rides, .ref a_metres, .ref a_store, .ref a_seconds, .ref a_timesHeld, .ref a_work, .ref a_heldFor, .ref a_primeSeconds, .ref a_orderRows, .ref a_bunches, .ref a_values])), (a_seconds, .inl (cI, 20, .inl f_a_seconds))] H := hP
                have hD : va_D A [(h0, .inr (7, [.int v_x_number, .int v_x_limit, .ref x_totals, .ref x_points, .ref x_out])), (x_totals, .inl (cI, 20, .inl f_73)), (x_points, .inl (cI, 20, .inl f_57)), (x_out, .inl (cZ, 20, .inl (upd g_x_out_L_43 (Int32.toNatClampNeg i5_L_43) (vp_nar .boolean 1)))), (a_primeSeconds, .inl (cI, 100, .inl f_a_primeSeconds)), (pRa, .inr (3, [.int v_a_minute, .int v_a_left, .int v_a_primes, .long j_a_lot, .int v_a_foremost, .ref a_rides, .ref a_metres, .ref a_store, .ref a_seconds, .ref a_timesHeld, .ref a_work, .ref a_heldFor, .ref a_primeSeconds, .ref a_orderRows, .ref a_bunches, .ref a_values])), (a_seconds, .inl (cI, 20, .inl f_a_seconds))] := hD
                generalize upd g_x_out_L_43 (Int32.toNatClampNeg i5_L_43) (vp_nar .boolean 1) = f_75 at hP hD
                obtain ⟨v_76, ev_76⟩ : ∃ y : Int32, y = i5_L_43 + 1 := ⟨_, rfl⟩
                have hv_76 : v_76.toInt = ((i5_L_43).toInt + (1:Int)) := by rw [ev_76]; exact zz_addI rfl (by decide) (by omega) (by omega)
                refine lv_iinc (v := v_76) (lv' := [(5, .int v_76), (7, .int r_51), (6, .int v_50), (4, .int v_6), (3, .int r_1), (0, .ref h0), (1, .ref pRa), (2, .int pN)]) hx hb dX7_addStage_131 hl (k := 2) rfl (by rw [ev_76]; rfl) (by decide) rfl (fun ls hl => ?_)
                refine lv_goto (tgt := 34) hx hb dX7_addStage_134 (by decide) ?_
                have hb_77_i5_L_43 : (v_76 : Int32).toInt = ((i5_L_43).toInt + (1:Int)) := hv_76
                exact ih_44 v_76 f_75 f_57 f_73 H locs ls (by omega) (by omega) (by omega) (hP.sub [0, 1, 2, 3, 4, 5, 6] rfl) (hD.sub [0, 1, 2, 3, 4, 5, 6] (by decide) rfl) hS (lv_sub hl [0, 3, 4, 5, 6, 7] rfl)
              ·
                have c_74 : ¬ ((v_50).toInt = (-1:Int)) := zz_eqn rfl (by decide) c_74
                refine lv_iload hx hb dX7_addStage_113 (lv_at hl 1 rfl) ?_
                refine lv_bipush (v := 100) hx hb dX7_addStage_115 (by decide) ?_
                refine lv_imul hx hb dX7_addStage_117 ?_
                refine lv_topi (fun v_78 _ => ?_)
                refine lv_iload hx hb dX7_addStage_118 (lv_at hl 3 rfl) ?_
                refine lv_icmp_le (tgt := 131) hx hb dX7_addStage_120 (by decide) (fun c_79 => ?_) (fun c_79 => ?_)
                ·
                  have c_79 : (v_78).toInt ≤ (v_6).toInt := zz_le rfl rfl c_79
                  obtain ⟨v_80, ev_80⟩ : ∃ y : Int32, y = i5_L_43 + 1 := ⟨_, rfl⟩
                  have hv_80 : v_80.toInt = ((i5_L_43).toInt + (1:Int)) := by rw [ev_80]; exact zz_addI rfl (by decide) (by omega) (by omega)
                  refine lv_iinc (v := v_80) (lv' := [(5, .int v_80), (7, .int r_51), (6, .int v_50), (4, .int v_6), (3, .int r_1), (0, .ref h0), (1, .ref pRa), (2, .int pN)]) hx hb dX7_addStage_131 hl (k := 2) rfl (by rw [ev_80]; rfl) (by decide) rfl (fun ls hl => ?_)
                  refine lv_goto (tgt := 34) hx hb dX7_addStage_134 (by decide) ?_
                  have hb_81_i5_L_43 : (v_80 : Int32).toInt = ((i5_L_43).toInt + (1:Int)) := hv_80
                  exact ih_44 v_80 g_x_out_L_43 f_57 f_73 H locs ls (by omega) (by omega) (by omega) (hP.sub [0, 1, 2, 3, 4, 5, 6] rfl) (hD.sub [0, 1, 2, 3, 4, 5, 6] (by decide) rfl) hS (lv_sub hl [0, 3, 4, 5, 6, 7] rfl)
                ·
                  have c_79 : ¬ ((v_78).toInt ≤ (v_6).toInt) := zz_len rfl rfl c_79
                  refine lv_aload_n hx hb dX7_addStage_123 rfl (lv_at hl 5 rfl) ?_
                  refine va_get (D := (dC, dI)) (ci := 7) (v := .ref x_out) (C := RX7) (T := TX7) (N := 5) hx hb hts hiX7 hown hK hP 0 rfl rfl 4 (by decide) hw17 (fun _ h9 => h9) rfl dX7_addStage_124 ?_
                  refine lv_iload hx hb dX7_addStage_127 (lv_at hl 2 rfl) ?_
                  refine lv_iconst (v := 1) hx hb dX7_addStage_129 (by decide) ?_
                  refine va_zast hx hb hK hP hD hS 3 1 rfl rfl (zz_in (a := (i5_L_43).toInt) rfl (by omega) (by omega)) dX7_addStage_130 (fun H locs hP hD hS => ?_)
                  have hP : va_P (dC, dI) vwCl [(h0, .inr (7, [.int v_x_number, .int v_x_limit, .ref x_totals, .ref x_points, .ref x_out])), (x_totals, .inl (cI, 20, .inl f_73)), (x_points, .inl (cI, 20, .inl f_57)), (x_out, .inl (cZ, 20, .inl (upd g_x_out_L_43 (Int32.toNatClampNeg i5_L_43) (vp_nar .boolean 1)))), (a_primeSeconds, .inl (cI, 100, .inl f_a_primeSeconds)), (pRa, .inr (3, [.int v_a_minute, .int v_a_left, .int v_a_primes, .long j_a_lot, .int v_a_foremost, .ref a_rides, .ref a_metres, .ref a_store, .ref a_seconds, .ref a_timesHeld, .ref a_work, .ref a_heldFor, .ref a_primeSeconds, .ref a_orderRows, .ref a_bunches, .ref a_values])), (a_seconds, .inl (cI, 20, .inl f_a_seconds))] H := hP
                  have hD : va_D A [(h0, .inr (7, [.int v_x_number, .int v_x_limit, .ref x_totals, .ref x_points, .ref x_out])), (x_totals, .inl (cI, 20, .inl f_73)), (x_points, .inl (cI, 20, .inl f_57)), (x_out, .inl (cZ, 20, .inl (upd g_x_out_L_43 (Int32.toNatClampNeg i5_L_43) (vp_nar .boolean 1)))), (a_primeSeconds, .inl (cI, 100, .inl f_a_primeSeconds)), (pRa, .inr (3, [.int v_a_minute, .int v_a_left, .int v_a_primes, .long j_a_lot, .int v_a_foremost, .ref a_rides, .ref a_metres, .ref a_store, .ref a_seconds, .ref a_timesHeld, .ref a_work, .ref a_heldFor, .ref a_primeSeconds, .ref a_orderRows, .ref a_bunches, .ref a_values])), (a_seconds, .inl (cI, 20, .inl f_a_seconds))] := hD
                  generalize upd g_x_out_L_43 (Int32.toNatClampNeg i5_L_43) (vp_nar .boolean 1) = f_82 at hP hD
                  obtain ⟨v_83, ev_83⟩ : ∃ y : Int32, y = i5_L_43 + 1 := ⟨_, rfl⟩
                  have hv_83 : v_83.toInt = ((i5_L_43).toInt + (1:Int)) := by rw [ev_83]; exact zz_addI rfl (by decide) (by omega) (by omega)
                  refine lv_iinc (v := v_83) (lv' := [(5, .int v_83), (7, .int r_51), (6, .int v_50), (4, .int v_6), (3, .int r_1), (0, .ref h0), (1, .ref pRa), (2, .int pN)]) hx hb dX7_addStage_131 hl (k := 2) rfl (by rw [ev_83]; rfl) (by decide) rfl (fun ls hl => ?_)
                  refine lv_goto (tgt := 34) hx hb dX7_addStage_134 (by decide) ?_
                  have hb_84_i5_L_43 : (v_83 : Int32).toInt = ((i5_L_43).toInt + (1:Int)) := hv_83
                  exact ih_44 v_83 f_82 f_57 f_73 H locs ls (by omega) (by omega) (by omega) (hP.sub [0, 1, 2, 3, 4, 5, 6] rfl) (hD.sub [0, 1, 2, 3, 4, 5, 6] (by decide) rfl) hS (lv_sub hl [0, 3, 4, 5, 6, 7] rfl)
    have hb_85_i5_L_43 : (0 : Int32).toInt = (0:Int) := (by decide)
    exact L_43 1000 0 f_x_out f_x_points f_x_totals H locs ls (by omega) (by omega) (by omega) (hP.sub [0, 1, 2, 3, 4, 5, 6] rfl) (hD.sub [0, 1, 2, 3, 4, 5, 6] (by decide) rfl) hS (lv_sub hl [0, 1, 2, 3, 4, 5] rfl)
  ·
    have c_3 : (r_1).toInt = (-1:Int) := zz_eq rfl (by decide) c_3
    refine lv_iconst (v := 0) hx hb dX7_addStage_11 (by decide) ?_
    refine lv_goto (tgt := 29) hx hb dX7_addStage_12 (by decide) ?_
    refine lv_istore (lv' := [(4, .int 0), (3, .int r_1), (0, .ref h0), (1, .ref pRa), (2, .int pN)]) hx hb dX7_addStage_29 hl (by decide) rfl (fun ls hl => ?_)
    refine lv_iconst (v := 0) hx hb dX7_addStage_31 (by decide) ?_
    refine lv_istore (lv' := [(5, .int 0), (4, .int 0), (3, .int r_1), (0, .ref h0), (1, .ref pRa), (2, .int pN)]) hx hb dX7_addStage_32 hl (by decide) rfl (fun ls hl => ?_)
    have L_120 : ∀ (n : Nat) (i5_L_120 : Int32) (g_x_out_L_120 : Nat → Int32) (g_x_points_L_120 : Nat → Int32) (g_x_totals_L_120 : Nat → Int32) (H : Heap) (locs : List Loc) (ls : Array Slot), (0 ≤ i5_L_120.toInt) → (i5_L_120.toInt ≤ 20) → (20 - i5_L_120.toInt) < (n : Int) → va_P (dC, dI) vwCl [(h0, .inr (7, [.int v_x_number, .int v_x_limit, .ref x_totals, .ref x_points, .ref x_out])), (x_totals, .inl (cI, 20, .inl g_x_totals_L_120)), (x_points, .inl (cI, 20, .inl g_x_points_L_120)), (x_out, .inl (cZ, 20, .inl g_x_out_L_120)), (a_primeSeconds, .inl (cI, 100, .inl f_a_primeSeconds)), (pRa, .inr (3, [.int v_a_minute, .int v_a_left, .int v_a_primes, .long j_a_lot, .int v_a_foremost, .ref a_rides, .ref a_metres, .ref a_store, .ref a_seconds, .ref a_timesHeld, .ref a_work, .ref a_heldFor, .ref a_primeSeconds, .ref a_orderRows, .ref a_bunches, .ref a_values])), (a_seconds, .inl (cI, 20, .inl f_a_seconds))] H → va_D A [(h0, .inr (7, [.int v_x_number, .int v_x_limit, .ref x_totals, .ref x_points, .ref x_out])), (x_totals, .inl (cI, 20, .inl g_x_totals_L_120)), (x_points, .inl (cI, 20, .inl g_x_points_L_120)), (x_out, .inl (cZ, 20, .inl g_x_out_L_120)), (a_primeSeconds, .inl (cI, 100, .inl f_a_primeSeconds)), (pRa, .inr (3, [.int v_a_minute, .int v_a_left, .int v_a_primes, .long j_a_lot, .int v_a_foremost, .ref a_rides, .ref a_metres, .ref a_store, .ref a_seconds, .ref a_timesHeld, .ref a_work, .ref a_heldFor, .ref a_primeSeconds, .ref a_orderRows, .ref a_bunches, .ref a_values])), (a_seconds, .inl (cI, 20, .inl f_a_seconds))] → va_S A s.heap H locs → lv_has ls 8 [(5, .int i5_L_120), (4, .int 0), (3, .int r_1), (0, .ref h0), (1, .ref pRa), (2, .int pN)] → W p l e ((headSpec (Cond.code yX7_addStage cX7_addStage 8 none :: lw_good) ({ frames := 3, cells := 0, slots := 0, locals := 70 })).room) s m (([.ref h0, .ref pRa, .int pN] : List Value).toArray) below meth c H locs 0 0 (MQ below (va_Qv (fun _ : Unit => True) (fun _ t => ∃ (w_h0_number : Int32) (g_x_totals : Nat → Int32) (g_x_points : Nat → Int32) (g_x_out : Nat → Int32), (w_h0_number.toInt = v_x_number_i + 1) ∧ (0 ≤ w_h0_number.toInt ∧ w_h0_number.toInt ≤ 20) ∧ va_P (dC, dI) vwCl [(h0, .inr (7, [.int w_h0_number, .int v_x_limit, .ref x_totals, .ref x_points, .ref x_out])), (x_totals, .inl (cI, 20, .inl g_x_totals)), (x_points, .inl (cI, 20, .inl g_x_points)), (x_out, .inl (cZ, 20, .inl g_x_out)), (pRa, .inr (3, [.int v_a_minute, .int v_a_left, .int v_a_primes, .long j_a_lot, .int v_a_foremost, .ref a_rides, .ref a_metres, .ref a_store, .ref a_seconds, .ref a_timesHeld, .ref a_work, .ref a_heldFor, .ref a_primeSeconds, .ref a_orderRows, .ref a_bunches, .ref a_values])), (a_seconds, .inl (cI, 20, .inl f_a_seconds)), (a_primeSeconds, .inl (cI, 100, .inl f_a_primeSeconds))] t.heap ∧ va_K (dC, dI) vwCl [(cI, .int), (cZ, .boolean)] t ∧ va_D A [(h0, .inr (7, [.int w_h0_number, .int v_x_limit, .ref x_totals, .ref x_points, .ref x_out])), (x_totals, .inl (cI, 20, .inl g_x_totals)), (x_points, .inl (cI, 20, .inl g_x_points)), (x_out, .inl (cZ, 20, .inl g_x_out)), (pRa, .inr (3, [.int v_a_minute, .int v_a_left, .int v_a_primes, .long j_a_lot, .int v_a_foremost, .ref a_rides, .ref a_metres, .ref a_store, .ref a_seconds, .ref a_timesHeld, .ref a_work, .ref a_heldFor, .ref a_primeSeconds, .ref a_orderRows, .ref a_bunches, .ref a_values])), (a_seconds, .inl (cI, 20, .inl f_a_seconds)), (a_primeSeconds, .inl (cI, 100, .inl f_a_primeSeconds))]) A) (([.ref h0, .ref pRa, .int pN] : List Value).toArray) s 0 0 A) (F0 m 34 ls []) := by
      intro n
      induction n with
      | zero =>
        intro i5_L_120 g_x_out_L_120 g_x_points_L_120 g_x_totals_L_120 H locs ls hI0 hI1 hM
        exact absurd hM (by omega)
      | succ n ih =>
        intro i5_L_120 g_x_out_L_120 g_x_points_L_120 g_x_totals_L_120 H locs ls hI0 hI1 hM hP hD hS hl
        have ih_121 := ih
        have hi_122 := hI0
        have hi_123 := hI1
        refine lv_iload hx hb dX7_addStage_34 (lv_at hl 0 rfl) ?_
        refine lv_iload_n hx hb dX7_addStage_36 rfl (lv_at hl 5 rfl) ?_
        refine lv_icmp_ge (tgt := 137) hx hb dX7_addStage_37 (by decide) (fun c_124 => ?_) (fun c_124 => ?_)
        ·
          have c_124 : pN_i ≤ (i5_L_120).toInt := zz_le pN_h rfl c_124
          refine lv_aload_n hx hb dX7_addStage_137 rfl (lv_at hl 3 rfl) ?_
          refine lv_dup hx hb dX7_addStage_138 rfl ?_
          refine va_get (D := (dC, dI)) (ci := 7) (v := .int v_x_number) (C := RX7) (T := TX7) (N := 5) hx hb hts hiX7 hown hK hP 0 rfl rfl 0 (by decide) hw6 (fun _ h9 => h9) rfl dX7_addStage_139 ?_
          refine lv_iconst (v := 1) hx hb dX7_addStage_142 (by decide) ?_
          refine lv_iadd hx hb dX7_addStage_143 ?_
          refine lv_topi (fun v_125 ev_125 => ?_)
          have hv_125 : v_125.toInt = (v_x_number_i + (1:Int)) := by rw [ev_125]; exact zz_addI v_x_number_h (by decide) (by omega) (by omega)
          refine va_put (D := (dC, dI)) (ci := 7) (v := .int v_125) (ty := .int) (C := RX7) (T := TX7) (N := 5) hx hb hts hiX7 tyX7 tyX7_ok nmX7 hown hK hP hD hS 0 rfl rfl 0 (by decide) hw6 (fun _ h9 => h9) rfl (by decide +kernel) rfl rfl (Nat.le_of_ble_eq_true rfl) dX7_addStage_144 (fun H locs hP hD hS => ?_)
          have hP : va_P (dC, dI) vwCl [(h0, .inr (7, [.int v_125, .int v_x_limit, .ref x_totals, .ref x_points, .ref x_out])), (x_totals, .inl (cI, 20, .inl g_x_totals_L_120)), (x_points, .inl (cI, 20, .inl g_x_points_L_120)), (x_out, .inl (cZ, 20, .inl g_x_out_L_120)), (a_primeSeconds, .inl (cI, 100, .inl f_a_primeSeconds)), (pRa, .inr (3, [.int v_a_minute, .int v_a_left, .int v_a_primes, .long j_a_lot, .int v_a_foremost, .ref a_rides, .ref a_metres, .ref a_store, .ref a_seconds, .ref a_timesHeld, .ref a_work, .ref a_heldFor, .ref a_primeSeconds, .ref a_orderRows, .ref a_bunches, .ref a_values])), (a_seconds, .inl (cI, 20, .inl f_a_seconds))] H := hP
          have hD : va_D A [(h0, .inr (7, [.int v_125, .int v_x_limit, .ref x_totals, .ref x_points, .ref x_out])), (x_totals, .inl (cI, 20, .inl g_x_totals_L_120)), (x_points, .inl (cI, 20, .inl g_x_points_L_120)), (x_out, .inl (cZ, 20, .inl g_x_out_L_120)), (a_primeSeconds, .inl (cI, 100, .inl f_a_primeSeconds)), (pRa, .inr (3, [.int v_a_minute, .int v_a_left, .int v_a_primes, .long j_a_lot, .int v_a_foremost, .ref a_rides, .ref a_metres, .ref a_store, .ref a_seconds, .ref a_timesHeld, .ref a_work, .ref a_heldFor, .ref a_primeSeconds, .ref a_orderRows, .ref a_bunches, .ref a_values])), (a_seconds, .inl (cI, 20, .inl f_a_seconds))] := hD
          have hx9_w_h0_number : (v_125 : Int32).toInt = (v_x_number_i + (1:Int)) := hv_125
          have hP9 := hP.sub (ws' := [(h0, .inr (7, [.int v_125, .int v_x_limit, .ref x_totals, .ref x_points, .ref x_out])), (x_totals, .inl (cI, 20, .inl g_x_totals_L_120)), (x_points, .inl (cI, 20, .inl g_x_points_L_120)), (x_out, .inl (cZ, 20, .inl g_x_out_L_120)), (pRa, .inr (3, [.int v_a_minute, .int v_a_left, .int v_a_primes, .long j_a_lot, .int v_a_foremost, .ref a_rides, .ref a_metres, .ref a_store, .ref a_seconds, .ref a_timesHeld, .ref a_work, .ref a_heldFor, .ref a_primeSeconds, .ref a_orderRows, .ref a_bunches, .ref a_values])), (a_seconds, .inl (cI, 20, .inl f_a_seconds)), (a_primeSeconds, .inl (cI, 100, .inl f_a_primeSeconds))]) [0, 1, 2, 3, 5, 6, 4] rfl
          have hD9 := hD.sub (ws' := [(h0, .inr (7, [.int v_125, .int v_x_limit, .ref x_totals, .ref x_points, .ref x_out])), (x_totals, .inl (cI, 20, .inl g_x_totals_L_120)), (x_points, .inl (cI, 20, .inl g_x_points_L_120)), (x_out, .inl (cZ, 20, .inl g_x_out_L_120)), (pRa, .inr (3, [.int v_a_minute, .int v_a_left, .int v_a_primes, .long j_a_lot, .int v_a_foremost, .ref a_rides, .ref a_metres, .ref a_store, .ref a_seconds, .ref a_timesHeld, .ref a_work, .ref a_heldFor, .ref a_primeSeconds, .ref a_orderRows, .ref a_bunches, .ref a_values])), (a_seconds, .inl (cI, 20, .inl f_a_seconds)), (a_primeSeconds, .inl (cI, 100, .inl f_a_primeSeconds))]) [0, 1, 2, 3, 5, 6, 4] (by decide) rfl
          have hf9_0 : v_125.toInt = v_x_number_i + 1 := by omega
          have hf9_1 : 0 ≤ v_125.toInt ∧ v_125.toInt ≤ 20 := by omega
          exact W.vret hx hb hr (fun t ht hW => ⟨⟨(), rfl, trivial, v_125, g_x_totals_L_120, g_x_points_L_120, g_x_out_L_120, hf9_0, hf9_1, by rw [ht]; exact hP9, va_K.moved hW.alike hK, hD9⟩, hS.F ht⟩) hS.2.2 dX7_addStage_147
        ·
          have c_124 : ¬ (pN_i ≤ (i5_L_120).toInt) := zz_len pN_h rfl c_124
          refine lv_iload hx hb dX7_addStage_40 (lv_at hl 0 rfl) ?_
          refine lv_bipush (v := 20) hx hb dX7_addStage_42 (by decide) ?_
          refine lv_icmp_ge (tgt := 137) hx hb dX7_addStage_44 (by decide) (fun c_126 => ?_) (fun c_126 => ?_)
          ·
            have c_126 : (20:Int) ≤ (i5_L_120).toInt := zz_le (by decide) rfl c_126
            exact absurd c_126 (by omega)
          ·
            have c_126 : ¬ ((20:Int) ≤ (i5_L_120).toInt) := zz_len (by decide) rfl c_126
            refine lv_aload_n hx hb dX7_addStage_47 rfl (lv_at hl 4 rfl) ?_
            refine va_get (D := (dC, dI)) (ci := 3) (v := .ref a_seconds) (C := RX3) (T := TX3) (N := 16) hx hb hts hiX3 hown hK hP 5 rfl rfl 8 (by decide) hw4 (fun _ h9 => h9) rfl dX7_addStage_48 ?_
            refine lv_iload hx hb dX7_addStage_51 (lv_at hl 0 rfl) ?_
            refine va_iald hx hb hK hP 6 0 rfl rfl (zz_in (a := (i5_L_120).toInt) rfl (by omega) (by omega)) dX7_addStage_53 ?_
            refine lv_topi (fun v_127 ev_127 => ?_)
            refine lv_istore (lv' := [(6, .int v_127), (5, .int i5_L_120), (4, .int 0), (3, .int r_1), (0, .ref h0), (1, .ref pRa), (2, .int pN)]) hx hb dX7_addStage_54 hl (by decide) rfl (fun ls hl => ?_)
            refine lv_aload_n hx hb dX7_addStage_56 rfl (lv_at hl 5 rfl) ?_
            refine lv_iload hx hb dX7_addStage_57 (lv_at hl 1 rfl) ?_
            have hPc := hP.sub (ws' := [(pRa, .inr (3, [.int v_a_minute, .int v_a_left, .int v_a_primes, .long j_a_lot, .int v_a_foremost, .ref a_rides, .ref a_metres, .ref a_store, .ref a_seconds, .ref a_timesHeld, .ref a_work, .ref a_heldFor, .ref a_primeSeconds, .ref a_orderRows, .ref a_bunches, .ref a_values])), (a_primeSeconds, .inl (cI, 100, .inl f_a_primeSeconds))]) [5, 4] rfl
            have hDc := hD.sub (ws' := [(pRa, .inr (3, [.int v_a_minute, .int v_a_left, .int v_a_primes, .long j_a_lot, .int v_a_foremost, .ref a_rides, .ref a_metres, .ref a_store, .ref a_seconds, .ref a_timesHeld, .ref a_work, .ref a_heldFor, .ref a_primeSeconds, .ref a_orderRows, .ref a_bunches, .ref a_values])), (a_primeSeconds, .inl (cI, 100, .inl f_a_primeSeconds))]) [5, 4] (by decide) rfl
            have hFc := va_free (wc := [(pRa, .inr (3, [.int v_a_minute, .int v_a_left, .int v_a_primes, .long j_a_lot, .int v_a_foremost, .ref a_rides, .ref a_metres, .ref a_store, .ref a_seconds, .ref a_timesHeld, .ref a_work, .ref a_heldFor, .ref a_primeSeconds, .ref a_orderRows, .ref a_bunches, .ref a_values])), (a_primeSeconds, .inl (cI, 100, .inl f_a_primeSeconds))]) hD hS hA [5, 4] rfl
            refine va_calli (va_runV (As := [.int i5_L_120]) (rest := []) ⟨hx, hb, hml, hown, hts⟩ (c_X3_primePointsOf l dC dI cI cZ (H).size pRa i5_L_120 ((i5_L_120).toInt) rfl (by omega) v_a_minute v_a_minute_i v_a_minute_h v_a_left v_a_left_i v_a_left_h v_a_primes v_a_primes_i v_a_primes_h (by omega) j_a_lot v_a_foremost v_a_foremost_i v_a_foremost_h a_rides a_metres a_store a_seconds a_timesHeld a_work a_heldFor a_primeSeconds a_orderRows a_bunches a_values f_a_primeSeconds) ⟨callB_of 1 hts (zz_good zw_613) rfl rfl rfl hw0 hw7 (by decide +kernel) ⟨Nat.le_of_ble_eq_true rfl, Nat.le_of_ble_eq_true rfl⟩, hw8, hw9⟩ ⟨fun a U g mk q => by obtain ⟨q0, q1, qP, qK, qD⟩ := q; exact ⟨q0, q1, qP, va_K.moved (u := U) (U := U.calling g mk a) (Vm.Alike.refl U.vm) qK, qD⟩, va_recv hK hPc (ci := 3) (q0 := 0) rfl rfl, fun U hU hW => ⟨rfl, by rw [hU], by rw [hU]; exact hPc, va_K.moved hW.alike hK, hDc.weaken (fun _ _ _ _ => trivial)⟩⟩ rfl rfl hl.1 rfl (lv_room (Nat.le_of_ble_eq_true rfl)) dX7_addStage_59 ⟨Nat.le_of_ble_eq_true rfl, Nat.le_of_ble_eq_true rfl⟩) hS (fun q _ h => hFc q h) hFc (fun r_128 u t H1 locs ht hvm hpost hB hz1 hk1 hS => ?_)
            subst hpost
            obtain ⟨hP1, hK1, hD1⟩ := hB
            rw [ht] at hP1
            obtain ⟨hP, hD⟩ := va_join (wr := [(h0, .inr (7, [.int v_x_number, .int v_x_limit, .ref x_totals, .ref x_points, .ref x_out])), (x_totals, .inl (cI, 20, .inl g_x_totals_L_120)), (x_points, .inl (cI, 20, .inl g_x_points_L_120)), (x_out, .inl (cZ, 20, .inl g_x_out_L_120)), (a_seconds, .inl (cI, 20, .inl f_a_seconds))]) (w1 := [(pRa, .inr (3, [.int v_a_minute, .int v_a_left, .int v_a_primes, .long j_a_lot, .int v_a_foremost, .ref a_rides, .ref a_metres, .ref a_store, .ref a_seconds, .ref a_timesHeld, .ref a_work, .ref a_heldFor, .ref a_primeSeconds, .ref a_orderRows, .ref a_bunches, .ref a_values])), (a_primeSeconds, .inl (cI, 100, .inl f_a_primeSeconds))]) hP hD [5, 4] [0, 1, 2, 3, 6] rfl rfl (by decide) (by decide) hk1 hFc hP1 hD1
            generalize H1 = H at hP hS ⊢
            have hP : va_P (dC, dI) vwCl [(h0, .inr (7, [.int v_x_number, .int v_x_limit, .ref x_totals, .ref x_points, .ref x_out])), (x_totals, .inl (cI, 20, .inl g_x_totals_L_120)), (x_points, .inl (cI, 20, .inl g_x_points_L_120)), (x_out, .inl (cZ, 20, .inl g_x_out_L_120)), (a_seconds, .inl (cI, 20, .inl f_a_seconds)), (pRa, .inr (3, [.int v_a_minute, .int v_a_left, .int v_a_primes, .long j_a_lot, .int v_a_foremost, .ref a_rides, .ref a_metres, .ref a_store, .ref a_seconds, .ref a_timesHeld, .ref a_work, .ref a_heldFor, .ref a_primeSeconds, .ref a_orderRows, .ref a_bunches, .ref a_values])), (a_primeSeconds, .inl (cI, 100, .inl f_a_primeSeconds))] H := hP
            have hD : va_D A [(h0, .inr (7, [.int v_x_number, .int v_x_limit, .ref x_totals, .ref x_points, .ref x_out])), (x_totals, .inl (cI, 20, .inl g_x_totals_L_120)), (x_points, .inl (cI, 20, .inl g_x_points_L_120)), (x_out, .inl (cZ, 20, .inl g_x_out_L_120)), (a_seconds, .inl (cI, 20, .inl f_a_seconds)), (pRa, .inr (3, [.int v_a_minute, .int v_a_left, .int v_a_primes, .long j_a_lot, .int v_a_foremost, .ref a_rides, .ref a_metres, .ref a_store, .ref a_seconds, .ref a_timesHeld, .ref a_work, .ref a_heldFor, .ref a_primeSeconds, .ref a_orderRows, .ref a_bunches, .ref a_values])), (a_primeSeconds, .inl (cI, 100, .inl f_a_primeSeconds))] := hD
            refine lv_istore (lv' := [(7, .int r_128), (6, .int v_127), (5, .int i5_L_120), (4, .int 0), (3, .int r_1), (0, .ref h0), (1, .ref pRa), (2, .int pN)]) hx hb dX7_addStage_62 hl (by decide) rfl (fun ls hl => ?_)
            refine lv_aload_n hx hb dX7_addStage_64 rfl (lv_at hl 5 rfl) ?_
            refine va_get (D := (dC, dI)) (ci := 7) (v := .ref x_points) (C := RX7) (T := TX7) (N := 5) hx hb hts hiX7 hown hK hP 0 rfl rfl 3 (by decide) hw10 (fun _ h9 => h9) rfl dX7_addStage_65 ?_
            refine lv_iload hx hb dX7_addStage_68 (lv_at hl 2 rfl) ?_
            refine lv_dup2_11 hx hb dX7_addStage_70 rfl rfl ?_
            refine va_iald hx hb hK hP 2 0 rfl rfl (zz_in (a := (i5_L_120).toInt) rfl (by omega) (by omega)) dX7_addStage_71 ?_
            refine lv_topi (fun v_129 ev_129 => ?_)
            refine lv_iload hx hb dX7_addStage_72 (lv_at hl 0 rfl) ?_
            refine lv_aload_n hx hb dX7_addStage_74 rfl (lv_at hl 6 rfl) ?_
            refine lv_iload hx hb dX7_addStage_75 (lv_at hl 2 rfl) ?_
            have hPc := hP.sub (ws' := [(pRa, .inr (3, [.int v_a_minute, .int v_a_left, .int v_a_primes, .long j_a_lot, .int v_a_foremost, .ref a_rides, .ref a_metres, .ref a_store, .ref a_seconds, .ref a_timesHeld, .ref a_work, .ref a_heldFor, .ref a_primeSeconds, .ref a_orderRows, .ref a_bunches, .ref a_values])), (a_seconds, .inl (cI, 20, .inl f_a_seconds))]) [5, 4] rfl
            have hDc := hD.sub (ws' := [(pRa, .inr (3, [.int v_a_minute, .int v_a_left, .int v_a_primes, .long j_a_lot, .int v_a_foremost, .ref a_rides, .ref a_metres, .ref a_store, .ref a_seconds, .ref a_timesHeld, .ref a_work, .ref a_heldFor, .ref a_primeSeconds, .ref a_orderRows, .ref a_bunches, .ref a_values])), (a_seconds, .inl (cI, 20, .inl f_a_seconds))]) [5, 4] (by decide) rfl
            have hFc := va_free (wc := [(pRa, .inr (3, [.int v_a_minute, .int v_a_left, .int v_a_primes, .long j_a_lot, .int v_a_foremost, .ref a_rides, .ref a_metres, .ref a_store, .ref a_seconds, .ref a_timesHeld, .ref a_work, .ref a_heldFor, .ref a_primeSeconds, .ref a_orderRows, .ref a_bunches, .ref a_values])), (a_seconds, .inl (cI, 20, .inl f_a_seconds))]) hD hS hA [5, 4] rfl
            refine va_calli (va_runV (As := [.int i5_L_120]) (rest := [.int r_128, .int v_129, .int i5_L_120, .ref x_points]) ⟨hx, hb, hml, hown, hts⟩ (c_X3_placeOf l dC dI cI cZ (H).size pRa i5_L_120 ((i5_L_120).toInt) rfl (by omega) v_a_minute v_a_minute_i v_a_minute_h v_a_left v_a_left_i v_a_left_h v_a_primes v_a_primes_i v_a_primes_h (by omega) j_a_lot v_a_foremost v_a_foremost_i v_a_foremost_h a_rides a_metres a_store a_seconds a_timesHeld a_work a_heldFor a_primeSeconds a_orderRows a_bunches a_values f_a_seconds) ⟨callB_of 1 hts (zz_good zw_606) rfl rfl rfl hw0 hw11 (by decide +kernel) ⟨Nat.le_of_ble_eq_true rfl, Nat.le_of_ble_eq_true rfl⟩, hw12, hw13⟩ ⟨fun a U g mk q => by obtain ⟨q0, q1, qP, qK, qD⟩ := q; exact ⟨q0, q1, qP, va_K.moved (u := U) (U := U.calling g mk a) (Vm.Alike.refl U.vm) qK, qD⟩, va_recv hK hPc (ci := 3) (q0 := 0) rfl rfl, fun U hU hW => ⟨rfl, by rw [hU], by rw [hU]; exact hPc, va_K.moved hW.alike hK, hDc.weaken (fun _ _ _ _ => trivial)⟩⟩ rfl rfl hl.1 rfl (lv_room (Nat.le_of_ble_eq_true rfl)) dX7_addStage_77 ⟨Nat.le_of_ble_eq_true rfl, Nat.le_of_ble_eq_true rfl⟩) hS (fun q _ h => hFc q h) hFc (fun r_130 u t H1 locs ht hvm hpost hB hz1 hk1 hS => ?_)
            subst hpost
            obtain ⟨hP1, hK1, hD1⟩ := hB
            rw [ht] at hP1
            obtain ⟨hP, hD⟩ := va_join (wr := [(h0, .inr (7, [.int v_x_number, .int v_x_limit, .ref x_totals, .ref x_points, .ref x_out])), (x_totals, .inl (cI, 20, .inl g_x_totals_L_120)), (x_points, .inl (cI, 20, .inl g_x_points_L_120)), (x_out, .inl (cZ, 20, .inl g_x_out_L_120)), (a_primeSeconds, .inl (cI, 100, .inl f_a_primeSeconds))]) (w1 := [(pRa, .inr (3, [.int v_a_minute, .int v_a_left, .int v_a_primes, .long j_a_lot, .int v_a_foremost, .ref a_rides, .ref a_metres, .ref a_store, .ref a_seconds, .ref a_timesHeld, .ref a_work, .ref a_heldFor, .ref a_primeSeconds, .ref a_orderRows, .ref a_bunches, .ref a_values])), (a_seconds, .inl (cI, 20, .inl f_a_seconds))]) hP hD [5, 4] [0, 1, 2, 3, 6] rfl rfl (by decide) (by decide) hk1 hFc hP1 hD1
            generalize H1 = H at hP hS ⊢
            have hP : va_P (dC, dI) vwCl [(h0, .inr (7, [.int v_x_number, .int v_x_limit, .ref x_totals, .ref x_points, .ref x_out])), (x_totals, .inl (cI, 20, .inl g_x_totals_L_120)), (x_points, .inl (cI, 20, .inl g_x_points_L_120)), (x_out, .inl (cZ, 20, .inl g_x_out_L_120)), (a_primeSeconds, .inl (cI, 100, .inl f_a_primeSeconds)), (pRa, .inr (3, [.int v_a_minute, .int v_a_left, .int v_a_primes, .long j_a_lot, .int v_a_foremost, .ref a_rides, .ref a_metres, .ref a_store, .ref a_seconds, .ref a_timesHeld, .ref a_work, .ref a_heldFor, .ref a_primeSeconds, .ref a_orderRows, .ref a_bunches, .ref a_values])), (a_seconds, .inl (cI, 20, .inl f_a_seconds))] H := hP
            have hD : va_D A [(h0, .inr (7, [.int v_x_number, .int v_x_limit, .ref x_totals, .ref x_points, .ref x_out])), (x_totals, .inl (cI, 20, .inl g_x_totals_L_120)), (x_points, .inl (cI, 20, .inl g_x_points_L_120)), (x_out, .inl (cZ, 20, .inl g_x_out_L_120)), (a_primeSeconds, .inl (cI, 100, .inl f_a_primeSeconds)), (pRa, .inr (3, [.int v_a_minute, .int v_a_left, .int v_a_primes, .long j_a_lot, .int v_a_foremost, .ref a_rides, .ref a_metres, .ref a_store, .ref a_seconds, .ref a_timesHeld, .ref a_work, .ref a_heldFor, .ref a_primeSeconds, .ref a_orderRows, .ref a_bunches, .ref a_values])), (a_seconds, .inl (cI, 20, .inl f_a_seconds))] := hD
            have hPc := hP.sub (ws' := []) [] rfl
            have hDc := hD.sub (ws' := []) [] (by decide) rfl
            have hFc := va_free (wc := []) hD hS hA [] rfl
            refine va_calli (va_runS (As := [.int r_130]) (rest := [.int r_128, .int v_129, .int i5_L_120, .ref x_points]) ⟨hx, hb, hml, hown, hts⟩ (c_X7_stagePoints l dC dI cI cZ (H).size tS r_130 ((r_130).toInt) rfl) ⟨callB_of 1 hts (zz_good zw_658) rfl rfl rfl hw14 hw15 (by decide +kernel) ⟨Nat.le_of_ble_eq_true rfl, Nat.le_of_ble_eq_true rfl⟩, hw16⟩ ⟨fun a U g mk q => by obtain ⟨q0, q1, qP, qK, qD, qZ⟩ := q; exact ⟨q0, q1, qP, va_K.moved (u := U) (U := U.calling g mk a) (Vm.Alike.refl U.vm) qK, qD, zS_blind rfl rfl qZ⟩, fun U hU hW => ⟨rfl, by rw [hU], by rw [hU]; exact hPc, va_K.moved hW.alike hK, hDc.weaken (fun _ _ _ _ => trivial), zS_call hZ hS hFc hU hW⟩⟩ rfl rfl hl.1 rfl (lv_room (Nat.le_of_ble_eq_true rfl)) dX7_addStage_80 ⟨Nat.le_of_ble_eq_true rfl, Nat.le_of_ble_eq_true rfl⟩) hS (fun q _ h => hFc q h) hFc (fun r_131 u t H1 locs ht hvm hpost hB hz1 hk1 hS => ?_)
            subst hpost
            obtain ⟨hP1, hK1, hD1⟩ := hB
            rw [ht] at hP1
            obtain ⟨hP, hD⟩ := va_join (wr := [(h0, .inr (7, [.int v_x_number, .int v_x_limit, .ref x_totals, .ref x_points, .ref x_out])), (x_totals, .inl (cI, 20, .inl g_x_totals_L_120)), (x_points, .inl (cI, 20, .inl g_x_points_L_120)), (x_out, .inl (cZ, 20, .inl g_x_out_L_120)), (a_primeSeconds, .inl (cI, 100, .inl f_a_primeSeconds)), (pRa, .inr (3, [.int v_a_minute, .int v_a_left, .int v_a_primes, .long j_a_lot, .int v_a_foremost, .ref a_rides, .ref a_metres, .ref a_store, .ref a_seconds, .ref a_timesHeld, .ref a_work, .ref a_heldFor, .ref a_primeSeconds, .ref a_orderRows, .ref a_bunches, .ref a_values])), (a_seconds, .inl (cI, 20, .inl f_a_seconds))]) (w1 := []) hP hD [] [0, 1, 2, 3, 4, 5, 6] rfl rfl (by decide) (by decide) hk1 hFc hP1 hD1
            generalize H1 = H at hP hS ⊢
            have hP : va_P (dC, dI) vwCl [(h0, .inr (7, [.int v_x_number, .int v_x_limit, .ref x_totals, .ref x_points, .ref x_out])), (x_totals, .inl (cI, 20, .inl g_x_totals_L_120)), (x_points, .inl (cI, 20, .inl g_x_points_L_120)), (x_out, .inl (cZ, 20, .inl g_x_out_L_120)), (a_primeSeconds, .inl (cI, 100, .inl f_a_primeSeconds)), (pRa, .inr (3, [.int v_a_minute, .int v_a_left, .int v_a_primes, .long j_a_lot, .int v_a_foremost, .ref a_rides, .ref a_metres, .ref a_store, .ref a_seconds, .ref a_timesHeld, .ref a_work, .ref a_heldFor, .ref a_primeSeconds, .ref a_orderRows, .ref a_bunches, .ref a_values])), (a_seconds, .inl (cI, 20, .inl f_a_seconds))] H := hP
            have hD : va_D A [(h0, .inr (7, [.int v_x_number, .int v_x_limit, .ref x_totals, .ref x_points, .ref x_out])), (x_totals, .inl (cI, 20, .inl g_x_totals_L_120)), (x_points, .inl (cI, 20, .inl g_x_points_L_120)), (x_out, .inl (cZ, 20, .inl g_x_out_L_120)), (a_primeSeconds, .inl (cI, 100, .inl f_a_primeSeconds)), (pRa, .inr (3, [.int v_a_minute, .int v_a_left, .int v_a_primes, .long j_a_lot, .int v_a_foremost, .ref a_rides, .ref a_metres, .ref a_store, .ref a_seconds, .ref a_timesHeld, .ref a_work, .ref a_heldFor, .ref a_primeSeconds, .ref a_orderRows, .ref a_bunches, .ref a_values])), (a_seconds, .inl (cI, 20, .inl f_a_seconds))] := hD
            refine lv_iadd hx hb dX7_addStage_83 ?_
            refine lv_topi (fun v_132 _ => ?_)
            refine lv_iadd hx hb dX7_addStage_84 ?_
            refine lv_topi (fun v_133 _ => ?_)
            refine va_iast hx hb hK hP hD hS 2 0 rfl rfl (zz_in (a := (i5_L_120).toInt) rfl (by omega) (by omega)) dX7_addStage_85 (fun H locs hP hD hS => ?_)
            have hP : va_P (dC, dI) vwCl [(h0, .inr (7, [.int v_x_number, .int v_x_limit, .ref x_totals, .ref x_points, .ref x_out])), (x_totals, .inl (cI, 20, .inl g_x_totals_L_120)), (x_points, .inl (cI, 20, .inl (upd g_x_points_L_120 (Int32.toNatClampNeg i5_L_120) v_133))), (x_out, .inl (cZ, 20, .inl g_x_out_L_120)), (a_primeSeconds, .inl (cI, 100, .inl f_a_primeSeconds)), (pRa, .inr (3, [.int v_a_minute, .int v_a_left, .int v_a_primes, .long j_a_lot, .int v_a_foremost, .ref a_rides, .ref a_metres, .ref a_store, .ref a_seconds, .ref a_timesHeld, .ref a_work, .ref a_heldFor, .ref a_primeSeconds, .ref a_orderRows, .ref a_bunches, .ref a_values])), (a_seconds, .inl (cI, 20, .inl f_a_seconds))] H := hP
            have hD : va_D A [(h0, .inr (7, [.int v_x_number, .int v_x_limit, .ref x_totals, .ref x_points, .ref x_out])), (x_totals, .inl (cI, 20, .inl g_x_totals_L_120)), (x_points, .inl (cI, 20, .inl (upd g_x_points_L_120 (Int32.toNatClampNeg i5_L_120) v_133))), (x_out, .inl (cZ, 20, .inl g_x_out_L_120)), (a_primeSeconds, .inl (cI, 100, .inl f_a_primeSeconds)), (pRa, .inr (3, [.int v_a_minute, .int v_a_left, .int v_a_primes, .long j_a_lot, .int v_a_foremost, .ref a_rides, .ref a_metres, .ref a_store, .ref a_seconds, .ref a_timesHeld, .ref a_work, .ref a_heldFor, .ref a_primeSeconds, .ref a_orderRows, .ref a_bunches, .ref a_values])), (a_seconds, .inl (cI, 20, .inl f_a_seconds))] := hD
            generalize upd g_x_points_L_120 (Int32.toNatClampNeg i5_L_120) v_133 = f_134 at hP hD
            refine lv_iload hx hb dX7_addStage_86 (lv_at hl 1 rfl) ?_
            refine lv_iconst (v := (-1)) hx hb dX7_addStage_88 (by decide) ?_
            refine lv_icmp_eq (tgt := 107) hx hb dX7_addStage_89 (by decide) (fun c_135 => ?_) (fun c_135 => ?_)
            ·
              have c_135 : (v_127).toInt = (-1:Int) := zz_eq rfl (by decide) c_135
              refine lv_iload hx hb dX7_addStage_107 (lv_at hl 1 rfl) ?_
              refine lv_iconst (v := (-1)) hx hb dX7_addStage_109 (by decide) ?_
              refine lv_icmp_eq (tgt := 123) hx hb dX7_addStage_110 (by decide) (fun c_136 => ?_) (fun c_136 => ?_)
              ·
                have c_136 : (v_127).toInt = (-1:Int) := zz_eq rfl (by decide) c_136
                refine lv_aload_n hx hb dX7_addStage_123 rfl (lv_at hl 5 rfl) ?_
                refine va_get (D := (dC, dI)) (ci := 7) (v := .ref x_out) (C := RX7) (T := TX7) (N := 5) hx hb hts hiX7 hown hK hP 0 rfl rfl 4 (by decide) hw17 (fun _ h9 => h9) rfl dX7_addStage_124 ?_
                refine lv_iload hx hb dX7_addStage_127 (lv_at hl 2 rfl) ?_
                refine lv_iconst (v := 1) hx hb dX7_addStage_129 (by decide) ?_
                refine va_zast hx hb hK hP hD hS 3 1 rfl rfl (zz_in (a := (i5_L_120).toInt) rfl (by omega) (by omega)) dX7_addStage_130 (fun H locs hP hD hS => ?_)
                have hP : va_P (dC, dI) vwCl [(h0, .inr (7, [.int v_x_number, .int v_x_limit, .ref x_totals, .ref x_points, .ref x_out])), (x_totals, .inl (cI, 20, .inl g_x_totals_L_120)), (x_points, .inl (cI, 20, .inl f_134)), (x_out, .inl (cZ, 20, .inl (upd g_x_out_L_120 (Int32.toNatClampNeg i5_L_120) (vp_nar .boolean 1)))), (a_primeSeconds, .inl (cI, 100, .inl f_a_primeSeconds)), (pRa, .inr (3, [.int v_a_minute, .int v_a_left, .int v_a_primes, .long j_a_lot, .int v_a_foremost, .ref a_rides, .ref a_metres, .ref a_store, .ref a_seconds, .ref a_timesHeld, .ref a_work, .ref a_heldFor, .ref a_primeSeconds, .ref a_orderRows, .ref a_bunches, .ref a_values])), (a_seconds, .inl (cI, 20, .inl f_a_seconds))] H := hP
                have hD : va_D A [(h0, .inr (7, [.int v_x_number, .int v_x_limit, .ref x_totals, .ref x_points, .ref x_out])), (x_totals, .inl (cI, 20, .inl g_x_totals_L_120)), (x_points, .inl (cI, 20, .inl f_134)), (x_out, .inl (cZ, 20, .inl (upd g_x_out_L_120 (Int32.toNatClampNeg i5_L_120) (vp_nar .boolean 1)))), (a_primeSeconds, .inl (cI, 100, .inl f_a_primeSeconds)), (pRa, .inr (3, [.int v_a_minute, .int v_a_left, .int v_a_primes, .long j_a_lot, .int v_a_foremost, .ref a_rides, .ref a_metres, .ref a_store, .ref a_seconds, .ref a_timesHeld, .ref a_work, .ref a_heldFor, .ref a_primeSeconds, .ref a_orderRows, .ref a_bunches, .ref a_values])), (a_seconds, .inl (cI, 20, .inl f_a_seconds))] := hD
                generalize upd g_x_out_L_120 (Int32.toNatClampNeg i5_L_120) (vp_nar .boolean 1) = f_137 at hP hD
                obtain ⟨v_138, ev_138⟩ : ∃ y : Int32, y = i5_L_120 + 1 := ⟨_, rfl⟩
                have hv_138 : v_138.toInt = ((i5_L_120).toInt + (1:Int)) := by rw [ev_138]; exact zz_addI rfl (by decide) (by omega) (by omega)
                refine lv_iinc (v := v_138) (lv' := [(5, .int v_138), (7, .int r_128), (6, .int v_127), (4, .int 0), (3, .int r_1), (0, .ref h0), (1, .ref pRa), (2, .int pN)]) hx hb dX7_addStage_131 hl (k := 2) rfl (by rw [ev_138]; rfl) (by decide) rfl (fun ls hl => ?_)
                refine lv_goto (tgt := 34) hx hb dX7_addStage_134 (by decide) ?_
                have hb_139_i5_L_120 : (v_138 : Int32).toInt = ((i5_L_120).toInt + (1:Int)) := hv_138
                exact ih_121 v_138 f_137 f_134 g_x_totals_L_120 H locs ls (by omega) (by omega) (by omega) (hP.sub [0, 1, 2, 3, 4, 5, 6] rfl) (hD.sub [0, 1, 2, 3, 4, 5, 6] (by decide) rfl) hS (lv_sub hl [0, 3, 4, 5, 6, 7] rfl)
              ·
                have c_136 : ¬ ((v_127).toInt = (-1:Int)) := zz_eqn rfl (by decide) c_136
                refine lv_iload hx hb dX7_addStage_113 (lv_at hl 1 rfl) ?_
                refine lv_bipush (v := 100) hx hb dX7_addStage_115 (by decide) ?_
                refine lv_imul hx hb dX7_addStage_117 ?_
                refine lv_topi (fun v_140 ev_140 => ?_)
                have hv_140 : v_140.toInt = ((v_127).toInt * (100:Int)) := by rw [ev_140]; exact zz_mulI rfl (by decide) (by omega) (by omega)
                refine lv_iload hx hb dX7_addStage_118 (lv_at hl 3 rfl) ?_
                refine lv_icmp_le (tgt := 131) hx hb dX7_addStage_120 (by decide) (fun c_141 => ?_) (fun c_141 => ?_)
                ·
                  have c_141 : ((v_127).toInt * (100:Int)) ≤ (0:Int) := zz_le hv_140 (by decide) c_141
                  obtain ⟨v_142, ev_142⟩ : ∃ y : Int32, y = i5_L_120 + 1 := ⟨_, rfl⟩
                  have hv_142 : v_142.toInt = ((i5_L_120).toInt + (1:Int)) := by rw [ev_142]; exact zz_addI rfl (by decide) (by omega) (by omega)
                  refine lv_iinc (v := v_142) (lv' := [(5, .int v_142), (7, .int r_128), (6, .int v_127), (4, .int 0), (3, .int r_1), (0, .ref h0), (1, .ref pRa), (2, .int pN)]) hx hb dX7_addStage_131 hl (k := 2) rfl (by rw [ev_142]; rfl) (by decide) rfl (fun ls hl => ?_)
                  refine lv_goto (tgt := 34) hx hb dX7_addStage_134 (by decide) ?_
                  have hb_143_i5_L_120 : (v_142 : Int32).toInt = ((i5_L_120).toInt + (1:Int)) := hv_142
                  exact ih_121 v_142 g_x_out_L_120 f_134 g_x_totals_L_120 H locs ls (by omega) (by omega) (by omega) (hP.sub [0, 1, 2, 3, 4, 5, 6] rfl) (hD.sub [0, 1, 2, 3, 4, 5, 6] (by decide) rfl) hS (lv_sub hl [0, 3, 4, 5, 6, 7] rfl)
                ·
                  have c_141 : ¬ (((v_127).toInt * (100:Int)) ≤ (0:Int)) := zz_len hv_140 (by decide) c_141
                  exact absurd c_141 (by omega)
            ·
              have c_135 : ¬ ((v_127).toInt = (-1:Int)) := zz_eqn rfl (by decide) c_135
              refine lv_aload_n hx hb dX7_addStage_92 rfl (lv_at hl 5 rfl) ?_
              refine va_get (D := (dC, dI)) (ci := 7) (v := .ref x_totals) (C := RX7) (T := TX7) (N := 5) hx hb hts hiX7 hown hK hP 0 rfl rfl 2 (by decide) hw18 (fun _ h9 => h9) rfl dX7_addStage_93 ?_
              refine lv_iload hx hb dX7_addStage_96 (lv_at hl 2 rfl) ?_
              refine lv_dup2_11 hx hb dX7_addStage_98 rfl rfl ?_
              refine va_iald hx hb hK hP 1 0 rfl rfl (zz_in (a := (i5_L_120).toInt) rfl (by omega) (by omega)) dX7_addStage_99 ?_
              refine lv_topi (fun v_144 ev_144 => ?_)
              refine lv_iload hx hb dX7_addStage_100 (lv_at hl 1 rfl) ?_
              refine lv_iload hx hb dX7_addStage_102 (lv_at hl 0 rfl) ?_
              refine lv_isub hx hb dX7_addStage_104 ?_
              refine lv_topi (fun v_145 _ => ?_)
              refine lv_iadd hx hb dX7_addStage_105 ?_
              refine lv_topi (fun v_146 _ => ?_)
              refine va_iast hx hb hK hP hD hS 1 0 rfl rfl (zz_in (a := (i5_L_120).toInt) rfl (by omega) (by omega)) dX7_addStage_106 (fun H locs hP hD hS => ?_)
              have hP : va_P (dC, dI) vwCl [(h0, .inr (7, [.int v_x_number, .int v_x_limit, .ref x_totals, .ref x_points, .ref x_out])), (x_totals, .inl (cI, 20, .inl (upd g_x_totals_L_120 (Int32.toNatClampNeg i5_L_120) v_146))), (x_points, .inl (cI, 20, .inl f_134)), (x_out, .inl (cZ, 20, .inl g_x_out_L_120)), (a_primeSeconds, .inl (cI, 100, .inl f_a_primeSeconds)), (pRa, .inr (3, [.int v_a_minute, .int v_a_left, .int v_a_primes, .long j_a_lot, .int v_a_foremost, .ref a_rides, .ref a_metres, .ref a_store, .ref a_seconds, .ref a_timesHeld, .ref a_work, .ref a_heldFor, .ref a_primeSeconds, .ref a_orderRows, .ref a_bunches, .ref a_values])), (a_seconds, .inl (cI, 20, .inl f_a_seconds))] H := hP
              have hD : va_D A [(h0, .inr (7, [.int v_x_number, .int v_x_limit, .ref x_totals, .ref x_points, .ref x_out])), (x_totals, .inl (cI, 20, .inl (upd g_x_totals_L_120 (Int32.toNatClampNeg i5_L_120) v_146))), (x_points, .inl (cI, 20, .inl f_134)), (x_out, .inl (cZ, 20, .inl g_x_out_L_120)), (a_primeSeconds, .inl (cI, 100, .inl f_a_primeSeconds)), (pRa, .inr (3, [.int v_a_minute, .int v_a_left, .int v_a_primes, .long j_a_lot, .int v_a_foremost, .ref a_rides, .ref a_metres, .ref a_store, .ref a_seconds, .ref a_timesHeld, .ref a_work, .ref a_heldFor, .ref a_primeSeconds, .ref a_orderRows, .ref a_bunches, .ref a_values])), (a_seconds, .inl (cI, 20, .inl f_a_seconds))] := hD
              generalize upd g_x_totals_L_120 (Int32.toNatClampNeg i5_L_120) v_146 = f_147 at hP hD
              refine lv_iload hx hb dX7_addStage_107 (lv_at hl 1 rfl) ?_
              refine lv_iconst (v := (-1)) hx hb dX7_addStage_109 (by decide) ?_
              refine lv_icmp_eq (tgt := 123) hx hb dX7_addStage_110 (by decide) (fun c_148 => ?_) (fun c_148 => ?_)
              ·
                have c_148 : (v_127).toInt = (-1:Int) := zz_eq rfl (by decide) c_148
                refine lv_aload_n hx hb dX7_addStage_123 rfl (lv_at hl 5 rfl) ?_
                refine va_get (D := (dC, dI)) (ci := 7) (v := .ref x_out) (C := RX7) (T := TX7) (N := 5) hx hb hts hiX7 hown hK hP 0 rfl rfl 4 (by decide) hw17 (fun _ h9 => h9) rfl dX7_addStage_124 ?_
                refine lv_iload hx hb dX7_addStage_127 (lv_at hl 2 rfl) ?_
                refine lv_iconst (v := 1) hx hb dX7_addStage_129 (by decide) ?_
                refine va_zast hx hb hK hP hD hS 3 1 rfl rfl (zz_in (a := (i5_L_120).toInt) rfl (by omega) (by omega)) dX7_addStage_130 (fun H locs hP hD hS => ?_)
                have hP : va_P (dC, dI) vwCl [(h0, .inr (7, [.int v_x_number, .int v_x_limit, .ref x_totals, .ref x_points, .ref x_out])), (x_totals, .inl (cI, 20, .inl f_147)), (x_points, .inl (cI, 20, .inl f_134)), (x_out, .inl (cZ, 20, .inl (upd g_x_out_L_120 (Int32.toNatClampNeg i5_L_120) (vp_nar .boolean 1)))), (a_primeSeconds, .inl (cI, 100, .inl f_a_primeSeconds)), (pRa, .inr (3, [.int v_a_minute, .int v_a_left, .int v_a_primes, .long j_a_lot, .int v_a_foremost, .ref a_rides, .ref a_metres, .ref a_store, .ref a_seconds, .ref a_timesHeld, .ref a_work, .ref a_heldFor, .ref a_primeSeconds, .ref a_orderRows, .ref a_bunches, .ref a_values])), (a_seconds, .inl (cI, 20, .inl f_a_seconds))] H := hP
                have hD : va_D A [(h0, .inr (7, [.int v_x_number, .int v_x_limit, .ref x_totals, .ref x_points, .ref x_out])), (x_totals, .inl (cI, 20, .inl f_147)), (x_points, .inl (cI, 20, .inl f_134)), (x_out, .inl (cZ, 20, .inl (upd g_x_out_L_120 (Int32.toNatClampNeg i5_L_120) (vp_nar .boolean 1)))), (a_primeSeconds, .inl (cI, 100, .inl f_a_primeSeconds)), (pRa, .inr (3, [.int v_a_minute, .int v_a_left, .int v_a_primes, .long j_a_lot, .int v_a_foremost, .ref a_rides, .ref a_metres, .ref a_store, .ref a_seconds, .ref a_timesHeld, .ref a_work, .ref a_heldFor, .ref a_primeSeconds, .ref a_orderRows, .ref a_bunches, .ref a_values])), (a_seconds, .inl (cI, 20, .inl f_a_seconds))] := hD
                generalize upd g_x_out_L_120 (Int32.toNatClampNeg i5_L_120) (vp_nar .boolean 1) = f_149 at hP hD
                obtain ⟨v_150, ev_150⟩ : ∃ y : Int32, y = i5_L_120 + 1 := ⟨_, rfl⟩
                have hv_150 : v_150.toInt = ((i5_L_120).toInt + (1:Int)) := by rw [ev_150]; exact zz_addI rfl (by decide) (by omega) (by omega)
                refine lv_iinc (v := v_150) (lv' := [(5, .int v_150), (7, .int r_128), (6, .int v_127), (4, .int 0), (3, .int r_1), (0, .ref h0), (1, .ref pRa), (2, .int pN)]) hx hb dX7_addStage_131 hl (k := 2) rfl (by rw [ev_150]; rfl) (by decide) rfl (fun ls hl => ?_)
                refine lv_goto (tgt := 34) hx hb dX7_addStage_134 (by decide) ?_
                have hb_151_i5_L_120 : (v_150 : Int32).toInt = ((i5_L_120).toInt + (1:Int)) := hv_150
                exact ih_121 v_150 f_149 f_134 f_147 H locs ls (by omega) (by omega) (by omega) (hP.sub [0, 1, 2, 3, 4, 5, 6] rfl) (hD.sub [0, 1, 2, 3, 4, 5, 6] (by decide) rfl) hS (lv_sub hl [0, 3, 4, 5, 6, 7] rfl)
              ·
                have c_148 : ¬ ((v_127).toInt = (-1:Int)) := zz_eqn rfl (by decide) c_148
                refine lv_iload hx hb dX7_addStage_113 (lv_at hl 1 rfl) ?_
                refine lv_bipush (v := 100) hx hb dX7_addStage_115 (by decide) ?_
                refine lv_imul hx hb dX7_addStage_117 ?_
                refine lv_topi (fun v_152 _ => ?_)
                refine lv_iload hx hb dX7_addStage_118 (lv_at hl 3 rfl) ?_
                refine lv_icmp_le (tgt := 131) hx hb dX7_addStage_120 (by decide) (fun c_153 => ?_) (fun c_153 => ?_)
                ·
                  have c_153 : (v_152).toInt ≤ (0:Int) := zz_le rfl (by decide) c_153
                  obtain ⟨v_154, ev_154⟩ : ∃ y : Int32, y = i5_L_120 + 1 := ⟨_, rfl⟩
                  have hv_154 : v_154.toInt = ((i5_L_120).toInt + (1:Int)) := by rw [ev_154]; exact zz_addI rfl (by decide) (by omega) (by omega)
                  refine lv_iinc (v := v_154) (lv' := [(5, .int v_154), (7, .int r_128), (6, .int v_127), (4, .int 0), (3, .int r_1), (0, .ref h0), (1, .ref pRa), (2, .int pN)]) hx hb dX7_addStage_131 hl (k := 2) rfl (by rw [ev_154]; rfl) (by decide) rfl (fun ls hl => ?_)
                  refine lv_goto (tgt := 34) hx hb dX7_addStage_134 (by decide) ?_
                  have hb_155_i5_L_120 : (v_154 : Int32).toInt = ((i5_L_120).toInt + (1:Int)) := hv_154
                  exact ih_121 v_154 g_x_out_L_120 f_134 f_147 H locs ls (by omega) (by omega) (by omega) (hP.sub [0, 1, 2, 3, 4, 5, 6] rfl) (hD.sub [0, 1, 2, 3, 4, 5, 6] (by decide) rfl) hS (lv_sub hl [0, 3, 4, 5, 6, 7] rfl)
                ·
                  have c_153 : ¬ ((v_152).toInt ≤ (0:Int)) := zz_len rfl (by decide) c_153
                  refine lv_aload_n hx hb dX7_addStage_123 rfl (lv_at hl 5 rfl) ?_
                  refine va_get (D := (dC, dI)) (ci := 7) (v := .ref x_out) (C := RX7) (T := TX7) (N := 5) hx hb hts hiX7 hown hK hP 0 rfl rfl 4 (by decide) hw17 (fun _ h9 => h9) rfl dX7_addStage_124 ?_
                  refine lv_iload hx hb dX7_addStage_127 (lv_at hl 2 rfl) ?_
                  refine lv_iconst (v := 1) hx hb dX7_addStage_129 (by decide) ?_
                  refine va_zast hx hb hK hP hD hS 3 1 rfl rfl (zz_in (a := (i5_L_120).toInt) rfl (by omega) (by omega)) dX7_addStage_130 (fun H locs hP hD hS => ?_)
                  have hP : va_P (dC, dI) vwCl [(h0, .inr (7, [.int v_x_number, .int v_x_limit, .ref x_totals, .ref x_points, .ref x_out])), (x_totals, .inl (cI, 20, .inl f_147)), (x_points, .inl (cI, 20, .inl f_134)), (x_out, .inl (cZ, 20, .inl (upd g_x_out_L_120 (Int32.toNatClampNeg i5_L_120) (vp_nar .boolean 1)))), (a_primeSeconds, .inl (cI, 100, .inl f_a_primeSeconds)), (pRa, .inr (3, [.int v_a_minute, .int v_a_left, .int v_a_primes, .long j_a_lot, .int v_a_foremost, .ref a_rides, .ref a_metres, .ref a_store, .ref a_seconds, .ref a_timesHeld, .ref a_work, .ref a_heldFor, .ref a_primeSeconds, .ref a_orderRows, .ref a_bunches, .ref a_values])), (a_seconds, .inl (cI, 20, .inl f_a_seconds))] H := hP
                  have hD : va_D A [(h0, .inr (7, [.int v_x_number, .int v_x_limit, .ref x_totals, .ref x_points, .ref x_out])), (x_totals, .inl (cI, 20, .inl f_147)), (x_points, .inl (cI, 20, .inl f_134)), (x_out, .inl (cZ, 20, .inl (upd g_x_out_L_120 (Int32.toNatClampNeg i5_L_120) (vp_nar .boolean 1)))), (a_primeSeconds, .inl (cI, 100, .inl f_a_primeSeconds)), (pRa, .inr (3, [.int v_a_minute, .int v_a_left, .int v_a_primes, .long j_a_lot, .int v_a_foremost, .ref a_rides, .ref a_metres, .ref a_store, .ref a_seconds, .ref a_timesHeld, .ref a_work, .ref a_heldFor, .ref a_primeSeconds, .ref a_orderRows, .ref a_bunches, .ref a_values])), (a_seconds, .inl (cI, 20, .inl f_a_seconds))] := hD
                  generalize upd g_x_out_L_120 (Int32.toNatClampNeg i5_L_120) (vp_nar .boolean 1) = f_156 at hP hD
                  obtain ⟨v_157, ev_157⟩ : ∃ y : Int32, y = i5_L_120 + 1 := ⟨_, rfl⟩
                  have hv_157 : v_157.toInt = ((i5_L_120).toInt + (1:Int)) := by rw [ev_157]; exact zz_addI rfl (by decide) (by omega) (by omega)
                  refine lv_iinc (v := v_157) (lv' := [(5, .int v_157), (7, .int r_128), (6, .int v_127), (4, .int 0), (3, .int r_1), (0, .ref h0), (1, .ref pRa), (2, .int pN)]) hx hb dX7_addStage_131 hl (k := 2) rfl (by rw [ev_157]; rfl) (by decide) rfl (fun ls hl => ?_)
                  refine lv_goto (tgt := 34) hx hb dX7_addStage_134 (by decide) ?_
                  have hb_158_i5_L_120 : (v_157 : Int32).toInt = ((i5_L_120).toInt + (1:Int)) := hv_157
                  exact ih_121 v_157 f_156 f_134 f_147 H locs ls (by omega) (by omega) (by omega) (hP.sub [0, 1, 2, 3, 4, 5, 6] rfl) (hD.sub [0, 1, 2, 3, 4, 5, 6] (by decide) rfl) hS (lv_sub hl [0, 3, 4, 5, 6, 7] rfl)
    have hb_159_i5_L_120 : (0 : Int32).toInt = (0:Int) := (by decide)
    exact L_120 1000 0 f_x_out f_x_points f_x_totals H locs ls (by omega) (by omega) (by omega) (hP.sub [0, 1, 2, 3, 4, 5, 6] rfl) (hD.sub [0, 1, 2, 3, 4, 5, 6] (by decide) rfl) hS (lv_sub hl [0, 1, 2, 3, 4, 5] rfl)

set_option maxHeartbeats 8000000 in
set_option maxRecDepth 100000 in
theorem c_X7_howManyOut (l : Launch) (dC : Nat → ClassId) (dI : Nat → Nat → Nat) (cI cZ : ClassId) (sz : Nat) (h0 : Nat) (pN : Int32) (pN_i : Int) (pN_h : pN.toInt = pN_i) (v_x_number : Int32) (v_x_number_i : Int) (v_x_number_h : v_x_number.toInt = v_x_number_i) (B_v_x_number : 0 ≤ v_x_number_i ∧ v_x_number_i ≤ 20) (v_x_limit : Int32) (v_x_limit_i : Int) (v_x_limit_h : v_x_limit.toInt = v_x_limit_i) (x_totals : Nat) (x_points : Nat) (x_out : Nat) (f_x_out : Nat → Int32) : Met l yX7_howManyOut (Cond.code yX7_howManyOut cX7_howManyOut 4 (some .int) :: lw_good) ({ frames := 0, cells := 0, slots := 0, locals := 0 }) (va_Pc [.ref h0, .int pN] (fun U => U.heap.size = sz ∧ va_P (dC, dI) vwCl [(h0, .inr (7, [.int v_x_number, .int v_x_limit, .ref x_totals, .ref x_points, .ref x_out])), (x_out, .inl (cZ, 20, .inl f_x_out))] U.heap ∧ va_K (dC, dI) vwCl [(cI, .int), (cZ, .boolean)] U ∧ va_D (fun _ => True) [(h0, .inr (7, [.int v_x_number, .int v_x_limit, .ref x_totals, .ref x_points, .ref x_out])), (x_out, .inl (cZ, 20, .inl f_x_out))])) (va_Qi (fun (r u : Int32) => r = u) (fun u t => va_P (dC, dI) vwCl [(h0, .inr (7, [.int v_x_number, .int v_x_limit, .ref x_totals, .ref x_points, .ref x_out])), (x_out, .inl (cZ, 20, .inl f_x_out))] t.heap ∧ va_K (dC, dI) vwCl [(cI, .int), (cZ, .boolean)] t ∧ va_D (va_A [(h0, .inr (7, [.int v_x_number, .int v_x_limit, .ref x_totals, .ref x_points, .ref x_out])), (x_out, .inl (cZ, 20, .inl f_x_out))] sz) [(h0, .inr (7, [.int v_x_number, .int v_x_limit, .ref x_totals, .ref x_points, .ref x_out])), (x_out, .inl (cZ, 20, .inl f_x_out))]) (va_A [(h0, .inr (7, [.int v_x_number, .int v_x_limit, .ref x_totals, .ref x_points, .ref x_out])), (x_out, .inl (cZ, 20, .inl f_x_out))] sz)) 0 0 (va_A [(h0, .inr (7, [.int v_x_number, .int v_x_limit, .ref x_totals, .ref x_points, .ref x_out])), (x_out, .inl (cZ, 20, .inl f_x_out))] sz) := by
  refine Met.ofW (cc := cX7_howManyOut) (maxL := 4) (ret := (some .int)) (by decide) rfl ?_
  intro p e s m args below meth c s₁ B hml hv
  obtain ⟨rfl, hsz, hP, hK, hD0⟩ := hv
  have hx := B.exec
  have hb := B.bytes
  have hr := B.returns
  have hts := atoms_spec (ws := Cond.code yX7_howManyOut cX7_howManyOut 4 (some .int) :: lw_good) B.pre
  have hown : s.vm.findClass RX7 = some m.cls := findClass_of_methodNamed B.named
  have hlocks := B.notSynchronized
  have hiX7 : ∀ w ∈ wsX70, w ∈ (Cond.code yX7_howManyOut cX7_howManyOut 4 (some .int) :: lw_good) := fun w h => List.mem_cons_of_mem _ (zi_X7 w h)
  have hw0 := hts (.fieldLink RX7 25 "BunchRace$Stages" "out" "[Z") (List.mem_cons_of_mem _ zw_321)
  subst hsz
  have hD := hD0.self (sz := s.heap.size)
  generalize hAe : va_A [(h0, .inr (7, [.int v_x_number, .int v_x_limit, .ref x_totals, .ref x_points, .ref x_out])), (x_out, .inl (cZ, 20, .inl f_x_out))] s.heap.size = A at hD ⊢
  have hA : ∀ q : Nat, s.heap.size ≤ q → A q := fun q h => by rw [← hAe]; exact Or.inr h
  have hS : va_S A s.heap s.heap [] := va_S.rf
  have hP : va_P (dC, dI) vwCl [(h0, .inr (7, [.int v_x_number, .int v_x_limit, .ref x_totals, .ref x_points, .ref x_out])), (x_out, .inl (cZ, 20, .inl f_x_out))] s.heap := hP
  have hl := lv_entry ([.ref h0, .int pN]) (n := 4) (Nat.le_of_ble_eq_true rfl)
  rw [lg_entry_eq]
  generalize (lg_sl ([.ref h0, .int pN]) ++ List.replicate (4 - (lg_sl ([.ref h0, .int pN])).length) Slot.unset).toArray = ls at hl ⊢
  have hl : lv_has ls 4 [(0, .ref h0), (1, .int pN)] := hl
  refine lv_iconst (v := 0) hx hb dX7_howManyOut_0 (by decide) ?_
  refine lv_istore_n (lv' := [(2, .int 0), (0, .ref h0), (1, .int pN)]) hx hb dX7_howManyOut_1 rfl hl (by decide) rfl (fun ls hl => ?_)
  refine lv_iconst (v := 0) hx hb dX7_howManyOut_2 (by decide) ?_
  refine lv_istore_n (lv' := [(3, .int 0), (2, .int 0), (0, .ref h0), (1, .int pN)]) hx hb dX7_howManyOut_3 rfl hl (by decide) rfl (fun ls hl => ?_)
  have L_10 : ∀ (n : Nat) (i3_L_10 : Int32) (i2_L_10 : Int32) (H : Heap) (locs : List Loc) (ls : Array Slot), (0 ≤ i3_L_10.toInt) → (i3_L_10.toInt ≤ 20) → (20 - i3_L_10.toInt) < (n : Int) → va_P (dC, dI) vwCl [(h0, .inr (7, [.int v_x_number, .int v_x_limit, .ref x_totals, .ref x_points, .ref x_out])), (x_out, .inl (cZ, 20, .inl f_x_out))] H → va_D A [(h0, .inr (7, [.int v_x_number, .int v_x_limit, .ref x_totals, .ref x_points, .ref x_out])), (x_out, .inl (cZ, 20, .inl f_x_out))] → va_S A s.heap H locs → lv_has ls 4 [(3, .int i3_L_10), (2, .int i2_L_10), (0, .ref h0), (1, .int pN)] → W p l e ((headSpec (Cond.code yX7_howManyOut cX7_howManyOut 4 (some .int) :: lw_good) ({ frames := 0, cells := 0, slots := 0, locals := 0 })).room) s m (([.ref h0, .int pN] : List Value).toArray) below meth c H locs 0 0 (MQ below (va_Qi (fun (r u : Int32) => r = u) (fun u t => va_P (dC, dI) vwCl [(h0, .inr (7, [.int v_x_number, .int v_x_limit, .ref x_totals, .ref x_points, .ref x_out])), (x_out, .inl (cZ, 20, .inl f_x_out))] t.heap ∧ va_K (dC, dI) vwCl [(cI, .int), (cZ, .boolean)] t ∧ va_D A [(h0, .inr (7, [.int v_x_number, .int v_x_limit, .ref x_totals, .ref x_points, .ref x_out])), (x_out, .inl (cZ, 20, .inl f_x_out))]) A) (([.ref h0, .int pN] : List Value).toArray) s 0 0 A) (F0 m 4 ls []) := by
    intro n
    induction n with
    | zero =>
      intro i3_L_10 i2_L_10 H locs ls hI0 hI1 hM
      exact absurd hM (by omega)
    | succ n ih =>
      intro i3_L_10 i2_L_10 H locs ls hI0 hI1 hM hP hD hS hl
      have ih_11 := ih
      have hi_12 := hI0
      have hi_13 := hI1
      refine lv_iload_n hx hb dX7_howManyOut_4 rfl (lv_at hl 0 rfl) ?_
      refine lv_iload_n hx hb dX7_howManyOut_5 rfl (lv_at hl 3 rfl) ?_
      refine lv_icmp_ge (tgt := 33) hx hb dX7_howManyOut_6 (by decide) (fun c_14 => ?_) (fun c_14 => ?_)
      ·
        have c_14 : pN_i ≤ (i3_L_10).toInt := zz_le pN_h rfl c_14
        refine lv_iload_n hx hb dX7_howManyOut_33 rfl (lv_at hl 1 rfl) ?_
        have hu9 : (i2_L_10 : Int32).toInt = (i2_L_10).toInt := rfl
        have hP9 := hP.sub (ws' := [(h0, .inr (7, [.int v_x_number, .int v_x_limit, .ref x_totals, .ref x_points, .ref x_out])), (x_out, .inl (cZ, 20, .inl f_x_out))]) [0, 1] rfl
        have hD9 := hD.sub (ws' := [(h0, .inr (7, [.int v_x_number, .int v_x_limit, .ref x_totals, .ref x_points, .ref x_out])), (x_out, .inl (cZ, 20, .inl f_x_out))]) [0, 1] (by decide) rfl
        exact W.iret (v := i2_L_10) hx hb hr (fun t ht hW => ⟨⟨i2_L_10, i2_L_10, rfl, rfl, by rw [ht]; exact hP9, va_K.moved hW.alike hK, hD9⟩, hS.F ht⟩) hS.2.2 dX7_howManyOut_34
      ·
        have c_14 : ¬ (pN_i ≤ (i3_L_10).toInt) := zz_len pN_h rfl c_14
        refine lv_iload_n hx hb dX7_howManyOut_9 rfl (lv_at hl 0 rfl) ?_
        refine lv_bipush (v := 20) hx hb dX7_howManyOut_10 (by decide) ?_
        refine lv_icmp_ge (tgt := 33) hx hb dX7_howManyOut_12 (by decide) (fun c_15 => ?_) (fun c_15 => ?_)
        ·
          have c_15 : (20:Int) ≤ (i3_L_10).toInt := zz_le (by decide) rfl c_15
          refine lv_iload_n hx hb dX7_howManyOut_33 rfl (lv_at hl 1 rfl) ?_
          have hu9 : (i2_L_10 : Int32).toInt = (i2_L_10).toInt := rfl
          have hP9 := hP.sub (ws' := [(h0, .inr (7, [.int v_x_number, .int v_x_limit, .ref x_totals, .ref x_points, .ref x_out])), (x_out, .inl (cZ, 20, .inl f_x_out))]) [0, 1] rfl
          have hD9 := hD.sub (ws' := [(h0, .inr (7, [.int v_x_number, .int v_x_limit, .ref x_totals, .ref x_points, .ref x_out])), (x_out, .inl (cZ, 20, .inl f_x_out))]) [0, 1] (by decide) rfl
          exact W.iret (v := i2_L_10) hx hb hr (fun t ht hW => ⟨⟨i2_L_10, i2_L_10, rfl, rfl, by rw [ht]; exact hP9, va_K.moved hW.alike hK, hD9⟩, hS.F ht⟩) hS.2.2 dX7_howManyOut_34
        ·
          have c_15 : ¬ ((20:Int) ≤ (i3_L_10).toInt) := zz_len (by decide) rfl c_15
          refine lv_aload_n hx hb dX7_howManyOut_15 rfl (lv_at hl 2 rfl) ?_
          refine va_get (D := (dC, dI)) (ci := 7) (v := .ref x_out) (C := RX7) (T := TX7) (N := 5) hx hb hts hiX7 hown hK hP 0 rfl rfl 4 (by decide) hw0 (fun _ h9 => h9) rfl dX7_howManyOut_16 ?_
          refine lv_iload_n hx hb dX7_howManyOut_19 rfl (lv_at hl 0 rfl) ?_
          refine va_zald hx hb hK hP 1 1 rfl rfl (zz_in (a := (i3_L_10).toInt) rfl (by omega) (by omega)) dX7_howManyOut_20 ?_
          refine lv_topi (fun v_16 ev_16 => ?_)
          refine lv_if_eq (tgt := 27) hx hb dX7_howManyOut_21 (by decide) (fun c_17 => ?_) (fun c_17 => ?_)
          ·
            have c_17 : (v_16).toInt = (0:Int) := zz_eq rfl (by decide) c_17
            obtain ⟨v_18, ev_18⟩ : ∃ y : Int32, y = i3_L_10 + 1 := ⟨_, rfl⟩
            have hv_18 : v_18.toInt = ((i3_L_10).toInt + (1:Int)) := by rw [ev_18]; exact zz_addI rfl (by decide) (by omega) (by omega)
            refine lv_iinc (v := v_18) (lv' := [(3, .int v_18), (2, .int i2_L_10), (0, .ref h0), (1, .int pN)]) hx hb dX7_howManyOut_27 hl (k := 0) rfl (by rw [ev_18]; rfl) (by decide) rfl (fun ls hl => ?_)
            refine lv_goto (tgt := 4) hx hb dX7_howManyOut_30 (by decide) ?_
            have hb_19_i3_L_10 : (v_18 : Int32).toInt = ((i3_L_10).toInt + (1:Int)) := hv_18
            have hb_19_i2_L_10 : (i2_L_10 : Int32).toInt = (i2_L_10).toInt := rfl
            exact ih_11 v_18 i2_L_10 H locs ls (by omega) (by omega) (by omega) (hP.sub [0, 1] rfl) (hD.sub [0, 1] (by decide) rfl) hS (lv_sub hl [0, 1, 2, 3] rfl)
          ·
            have c_17 : ¬ ((v_16).toInt = (0:Int)) := zz_eqn rfl (by decide) c_17
            obtain ⟨v_20, ev_20⟩ : ∃ y : Int32, y = i2_L_10 + 1 := ⟨_, rfl⟩
            refine lv_iinc (v := v_20) (lv' := [(2, .int v_20), (3, .int i3_L_10), (0, .ref h0), (1, .int pN)]) hx hb dX7_howManyOut_24 hl (k := 1) rfl (by rw [ev_20]; rfl) (by decide) rfl (fun ls hl => ?_)
            obtain ⟨v_21, ev_21⟩ : ∃ y : Int32, y = i3_L_10 + 1 := ⟨_, rfl⟩
            have hv_21 : v_21.toInt = ((i3_L_10).toInt + (1:Int)) := by rw [ev_21]; exact zz_addI rfl (by decide) (by omega) (by omega)
            refine lv_iinc (v := v_21) (lv' := [(3, .int v_21), (2, .int v_20), (0, .ref h0), (1, .int pN)]) hx hb dX7_howManyOut_27 hl (k := 1) rfl (by rw [ev_21]; rfl) (by decide) rfl (fun ls hl => ?_)
            refine lv_goto (tgt := 4) hx hb dX7_howManyOut_30 (by decide) ?_
            have hb_22_i3_L_10 : (v_21 : Int32).toInt = ((i3_L_10).toInt + (1:Int)) := hv_21
            have hb_22_i2_L_10 : (v_20 : Int32).toInt = (v_20).toInt := rfl
            exact ih_11 v_21 v_20 H locs ls (by omega) (by omega) (by omega) (hP.sub [0, 1] rfl) (hD.sub [0, 1] (by decide) rfl) hS (lv_sub hl [0, 1, 2, 3] rfl)
  have hb_23_i3_L_10 : (0 : Int32).toInt = (0:Int) := (by decide)
  have hb_23_i2_L_10 : (0 : Int32).toInt = (0:Int) := (by decide)
  exact L_10 1000 0 0 s.heap [] ls (by omega) (by omega) (by omega) (hP.sub [0, 1] rfl) (hD.sub [0, 1] (by decide) rfl) hS (lv_sub hl [0, 1, 2, 3] rfl)

set_option maxHeartbeats 8000000 in
set_option maxRecDepth 100000 in
theorem c_X7_standsAhead (l : Launch) (dC : Nat → ClassId) (dI : Nat → Nat → Nat) (cI cZ : ClassId) (sz : Nat) (h0 : Nat) (pO : Int32) (pO_i : Int) (pO_h : pO.toInt = pO_i) (B_pO : 0 ≤ pO_i ∧ pO_i ≤ 19) (pP : Int32) (pP_i : Int) (pP_h : pP.toInt = pP_i) (B_pP : 0 ≤ pP_i ∧ pP_i ≤ 19) (v_x_number : Int32) (v_x_number_i : Int) (v_x_number_h : v_x_number.toInt = v_x_number_i) (B_v_x_number : 0 ≤ v_x_number_i ∧ v_x_number_i ≤ 20) (v_x_limit : Int32) (v_x_limit_i : Int) (v_x_limit_h : v_x_limit.toInt = v_x_limit_i) (x_totals : Nat) (x_points : Nat) (x_out : Nat) (f_x_totals : Nat → Int32) (f_x_points : Nat → Int32) : Met l yX7_standsAhead (Cond.code yX7_standsAhead cX7_standsAhead 3 (some .boolean) :: lw_good) ({ frames := 0, cells := 0, slots := 0, locals := 0 }) (va_Pc [.ref h0, .int pO, .int pP] (fun U => U.heap.size = sz ∧ va_P (dC, dI) vwCl [(h0, .inr (7, [.int v_x_number, .int v_x_limit, .ref x_totals, .ref x_points, .ref x_out])), (x_totals, .inl (cI, 20, .inl f_x_totals)), (x_points, .inl (cI, 20, .inl f_x_points))] U.heap ∧ va_K (dC, dI) vwCl [(cI, .int), (cZ, .boolean)] U ∧ va_D (fun _ => True) [(h0, .inr (7, [.int v_x_number, .int v_x_limit, .ref x_totals, .ref x_points, .ref x_out])), (x_totals, .inl (cI, 20, .inl f_x_totals)), (x_points, .inl (cI, 20, .inl f_x_points))])) (va_Qi (fun (r u : Int32) => r = u) (fun u t => (0 ≤ u.toInt ∧ u.toInt ≤ 1) ∧ va_P (dC, dI) vwCl [(h0, .inr (7, [.int v_x_number, .int v_x_limit, .ref x_totals, .ref x_points, .ref x_out])), (x_totals, .inl (cI, 20, .inl f_x_totals)), (x_points, .inl (cI, 20, .inl f_x_points))] t.heap ∧ va_K (dC, dI) vwCl [(cI, .int), (cZ, .boolean)] t ∧ va_D (va_A [(h0, .inr (7, [.int v_x_number, .int v_x_limit, .ref x_totals, .ref x_points, .ref x_out])), (x_totals, .inl (cI, 20, .inl f_x_totals)), (x_points, .inl (cI, 20, .inl f_x_points))] sz) [(h0, .inr (7, [.int v_x_number, .int v_x_limit, .ref x_totals, .ref x_points, .ref x_out])), (x_totals, .inl (cI, 20, .inl f_x_totals)), (x_points, .inl (cI, 20, .inl f_x_points))]) (va_A [(h0, .inr (7, [.int v_x_number, .int v_x_limit, .ref x_totals, .ref x_points, .ref x_out])), (x_totals, .inl (cI, 20, .inl f_x_totals)), (x_points, .inl (cI, 20, .inl f_x_points))] sz)) 0 0 (va_A [(h0, .inr (7, [.int v_x_number, .int v_x_limit, .ref x_totals, .ref x_points, .ref x_out])), (x_totals, .inl (cI, 20, .inl f_x_totals)), (x_points, .inl (cI, 20, .inl f_x_points))] sz) := by
  refine Met.ofW (cc := cX7_standsAhead) (maxL := 3) (ret := (some .boolean)) (by decide) rfl ?_
  intro p e s m args below meth c s₁ B hml hv
  obtain ⟨rfl, hsz, hP, hK, hD0⟩ := hv
  have hx := B.exec
  have hb := B.bytes
  have hr := B.returns
  have hts := atoms_spec (ws := Cond.code yX7_standsAhead cX7_standsAhead 3 (some .boolean) :: lw_good) B.pre
  have hown : s.vm.findClass RX7 = some m.cls := findClass_of_methodNamed B.named
  have hlocks := B.notSynchronized
  have hiX7 : ∀ w ∈ wsX70, w ∈ (Cond.code yX7_standsAhead cX7_standsAhead 3 (some .boolean) :: lw_good) := fun w h => List.mem_cons_of_mem _ (zi_X7 w h)
  have hw0 := hts (.fieldLink RX7 18 "BunchRace$Stages" "totals" "[I") (List.mem_cons_of_mem _ zw_317)
  have hw1 := hts (.fieldLink RX7 22 "BunchRace$Stages" "points" "[I") (List.mem_cons_of_mem _ zw_319)
  subst hsz
  have hD := hD0.self (sz := s.heap.size)
  generalize hAe : va_A [(h0, .inr (7, [.int v_x_number, .int v_x_limit, .ref x_totals, .ref x_points, .ref x_out])), (x_totals, .inl (cI, 20, .inl f_x_totals)), (x_points, .inl (cI, 20, .inl f_x_points))] s.heap.size = A at hD ⊢
  have hA : ∀ q : Nat, s.heap.size ≤ q → A q := fun q h => by rw [← hAe]; exact Or.inr h
  have hS : va_S A s.heap s.heap [] := va_S.rf
  have hP : va_P (dC, dI) vwCl [(h0, .inr (7, [.int v_x_number, .int v_x_limit, .ref x_totals, .ref x_points, .ref x_out])), (x_totals, .inl (cI, 20, .inl f_x_totals)), (x_points, .inl (cI, 20, .inl f_x_points))] s.heap := hP
  have hl := lv_entry ([.ref h0, .int pO, .int pP]) (n := 3) (Nat.le_of_ble_eq_true rfl)
  rw [lg_entry_eq]
  generalize (lg_sl ([.ref h0, .int pO, .int pP]) ++ List.replicate (3 - (lg_sl ([.ref h0, .int pO, .int pP])).length) Slot.unset).toArray = ls at hl ⊢
  have hl : lv_has ls 3 [(0, .ref h0), (1, .int pO), (2, .int pP)] := hl
  refine lv_aload_n hx hb dX7_standsAhead_0 rfl (lv_at hl 0 rfl) ?_
  refine va_get (D := (dC, dI)) (ci := 7) (v := .ref x_totals) (C := RX7) (T := TX7) (N := 5) hx hb hts hiX7 hown hK hP 0 rfl rfl 2 (by decide) hw0 (fun _ h9 => h9) rfl dX7_standsAhead_1 ?_
  refine lv_iload_n hx hb dX7_standsAhead_4 rfl (lv_at hl 1 rfl) ?_
  refine va_iald hx hb hK hP 1 0 rfl rfl (zz_in (a := pO_i) pO_h (by omega) (by omega)) dX7_standsAhead_5 ?_
  refine lv_topi (fun v_1 ev_1 => ?_)
  refine lv_aload_n hx hb dX7_standsAhead_6 rfl (lv_at hl 0 rfl) ?_
  refine va_get (D := (dC, dI)) (ci := 7) (v := .ref x_totals) (C := RX7) (T := TX7) (N := 5) hx hb hts hiX7 hown hK hP 0 rfl rfl 2 (by decide) hw0 (fun _ h9 => h9) rfl dX7_standsAhead_7 ?_
  refine lv_iload_n hx hb dX7_standsAhead_10 rfl (lv_at hl 2 rfl) ?_
  refine va_iald hx hb hK hP 1 0 rfl rfl (zz_in (a := pP_i) pP_h (by omega) (by omega)) dX7_standsAhead_11 ?_
  refine lv_topi (fun v_2 ev_2 => ?_)
  refine lv_icmp_eq (tgt := 36) hx hb dX7_standsAhead_12 (by decide) (fun c_3 => ?_) (fun c_3 => ?_)
  ·
    have c_3 : (v_1).toInt = (v_2).toInt := zz_eq rfl rfl c_3
    refine lv_aload_n hx hb dX7_standsAhead_36 rfl (lv_at hl 0 rfl) ?_
    refine va_get (D := (dC, dI)) (ci := 7) (v := .ref x_points) (C := RX7) (T := TX7) (N := 5) hx hb hts hiX7 hown hK hP 0 rfl rfl 3 (by decide) hw1 (fun _ h9 => h9) rfl dX7_standsAhead_37 ?_
    refine lv_iload_n hx hb dX7_standsAhead_40 rfl (lv_at hl 1 rfl) ?_
    refine va_iald hx hb hK hP 2 0 rfl rfl (zz_in (a := pO_i) pO_h (by omega) (by omega)) dX7_standsAhead_41 ?_
    refine lv_topi (fun v_4 ev_4 => ?_)
    refine lv_aload_n hx hb dX7_standsAhead_42 rfl (lv_at hl 0 rfl) ?_
    refine va_get (D := (dC, dI)) (ci := 7) (v := .ref x_points) (C := RX7) (T := TX7) (N := 5) hx hb hts hiX7 hown hK hP 0 rfl rfl 3 (by decide) hw1 (fun _ h9 => h9) rfl dX7_standsAhead_43 ?_
    refine lv_iload_n hx hb dX7_standsAhead_46 rfl (lv_at hl 2 rfl) ?_
    refine va_iald hx hb hK hP 2 0 rfl rfl (zz_in (a := pP_i) pP_h (by omega) (by omega)) dX7_standsAhead_47 ?_
    refine lv_topi (fun v_5 ev_5 => ?_)
    refine lv_icmp_eq (tgt := 72) hx hb dX7_standsAhead_48 (by decide) (fun c_6 => ?_) (fun c_6 => ?_)
    ·
      have c_6 : (v_4).toInt = (v_5).toInt := zz_eq rfl rfl c_6
      refine lv_iload_n hx hb dX7_standsAhead_72 rfl (lv_at hl 1 rfl) ?_
      refine lv_iload_n hx hb dX7_standsAhead_73 rfl (lv_at hl 2 rfl) ?_
      refine lv_icmp_ge (tgt := 81) hx hb dX7_standsAhead_74 (by decide) (fun c_7 => ?_) (fun c_7 => ?_)
      ·
        have c_7 : pP_i ≤ pO_i := zz_le pP_h pO_h c_7
        refine lv_iconst (v := 0) hx hb dX7_standsAhead_81 (by decide) ?_
        have hu9 : (0 : Int32).toInt = (0:Int) := (by decide)
        have hP9 := hP.sub (ws' := [(h0, .inr (7, [.int v_x_number, .int v_x_limit, .ref x_totals, .ref x_points, .ref x_out])), (x_totals, .inl (cI, 20, .inl f_x_totals)), (x_points, .inl (cI, 20, .inl f_x_points))]) [0, 1, 2] rfl
        have hD9 := hD.sub (ws' := [(h0, .inr (7, [.int v_x_number, .int v_x_limit, .ref x_totals, .ref x_points, .ref x_out])), (x_totals, .inl (cI, 20, .inl f_x_totals)), (x_points, .inl (cI, 20, .inl f_x_points))]) [0, 1, 2] (by decide) rfl
        have hf9_0 : 0 ≤ (0 : Int32).toInt ∧ (0 : Int32).toInt ≤ 1 := by omega
        exact W.zret (v := 0) hx hb hr rfl (fun t ht hW => ⟨⟨0, 0, rfl, rfl, hf9_0, by rw [ht]; exact hP9, va_K.moved hW.alike hK, hD9⟩, hS.F ht⟩) hS.2.2 dX7_standsAhead_82
      ·
        have c_7 : ¬ (pP_i ≤ pO_i) := zz_len pP_h pO_h c_7
        refine lv_iconst (v := 1) hx hb dX7_standsAhead_77 (by decide) ?_
        refine lv_goto (tgt := 82) hx hb dX7_standsAhead_78 (by decide) ?_
        have hu9 : (1 : Int32).toInt = (1:Int) := (by decide)
        have hP9 := hP.sub (ws' := [(h0, .inr (7, [.int v_x_number, .int v_x_limit, .ref x_totals, .ref x_points, .ref x_out])), (x_totals, .inl (cI, 20, .inl f_x_totals)), (x_points, .inl (cI, 20, .inl f_x_points))]) [0, 1, 2] rfl
        have hD9 := hD.sub (ws' := [(h0, .inr (7, [.int v_x_number, .int v_x_limit, .ref x_totals, .ref x_points, .ref x_out])), (x_totals, .inl (cI, 20, .inl f_x_totals)), (x_points, .inl (cI, 20, .inl f_x_points))]) [0, 1, 2] (by decide) rfl
        have hf9_0 : 0 ≤ (1 : Int32).toInt ∧ (1 : Int32).toInt ≤ 1 := by omega
        exact W.zret (v := 1) hx hb hr rfl (fun t ht hW => ⟨⟨1, 1, rfl, rfl, hf9_0, by rw [ht]; exact hP9, va_K.moved hW.alike hK, hD9⟩, hS.F ht⟩) hS.2.2 dX7_standsAhead_82
    ·
      have c_6 : ¬ ((v_4).toInt = (v_5).toInt) := zz_eqn rfl rfl c_6
      refine lv_aload_n hx hb dX7_standsAhead_51 rfl (lv_at hl 0 rfl) ?_
      refine va_get (D := (dC, dI)) (ci := 7) (v := .ref x_points) (C := RX7) (T := TX7) (N := 5) hx hb hts hiX7 hown hK hP 0 rfl rfl 3 (by decide) hw1 (fun _ h9 => h9) rfl dX7_standsAhead_52 ?_
      refine lv_iload_n hx hb dX7_standsAhead_55 rfl (lv_at hl 1 rfl) ?_
      refine va_iald hx hb hK hP 2 0 rfl rfl (zz_in (a := pO_i) pO_h (by omega) (by omega)) dX7_standsAhead_56 ?_
      refine lv_topi (fun v_8 ev_8 => ?_)
      obtain rfl : v_4 = v_8 := ev_4.trans ev_8.symm
      refine lv_aload_n hx hb dX7_standsAhead_57 rfl (lv_at hl 0 rfl) ?_
      refine va_get (D := (dC, dI)) (ci := 7) (v := .ref x_points) (C := RX7) (T := TX7) (N := 5) hx hb hts hiX7 hown hK hP 0 rfl rfl 3 (by decide) hw1 (fun _ h9 => h9) rfl dX7_standsAhead_58 ?_
      refine lv_iload_n hx hb dX7_standsAhead_61 rfl (lv_at hl 2 rfl) ?_
      refine va_iald hx hb hK hP 2 0 rfl rfl (zz_in (a := pP_i) pP_h (by omega) (by omega)) dX7_standsAhead_62 ?_
      refine lv_topi (fun v_9 ev_9 => ?_)
      obtain rfl : v_5 = v_9 := ev_5.trans ev_9.symm
      refine lv_icmp_le (tgt := 70) hx hb dX7_standsAhead_63 (by decide) (fun c_10 => ?_) (fun c_10 => ?_)
      ·
        have c_10 : (v_4).toInt ≤ (v_5).toInt := zz_le rfl rfl c_10
        refine lv_iconst (v := 0) hx hb dX7_standsAhead_70 (by decide) ?_
        have hu9 : (0 : Int32).toInt = (0:Int) := (by decide)
        have hP9 := hP.sub (ws' := [(h0, .inr (7, [.int v_x_number, .int v_x_limit, .ref x_totals, .ref x_points, .ref x_out])), (x_totals, .inl (cI, 20, .inl f_x_totals)), (x_points, .inl (cI, 20, .inl f_x_points))]) [0, 1, 2] rfl
        have hD9 := hD.sub (ws' := [(h0, .inr (7, [.int v_x_number, .int v_x_limit, .ref x_totals, .ref x_points, .ref x_out])), (x_totals, .inl (cI, 20, .inl f_x_totals)), (x_points, .inl (cI, 20, .inl f_x_points))]) [0, 1, 2] (by decide) rfl
        have hf9_0 : 0 ≤ (0 : Int32).toInt ∧ (0 : Int32).toInt ≤ 1 := by omega
        exact W.zret (v := 0) hx hb hr rfl (fun t ht hW => ⟨⟨0, 0, rfl, rfl, hf9_0, by rw [ht]; exact hP9, va_K.moved hW.alike hK, hD9⟩, hS.F ht⟩) hS.2.2 dX7_standsAhead_71
      ·
        have c_10 : ¬ ((v_4).toInt ≤ (v_5).toInt) := zz_len rfl rfl c_10
        refine lv_iconst (v := 1) hx hb dX7_standsAhead_66 (by decide) ?_
        refine lv_goto (tgt := 71) hx hb dX7_standsAhead_67 (by decide) ?_
        have hu9 : (1 : Int32).toInt = (1:Int) := (by decide)
        have hP9 := hP.sub (ws' := [(h0, .inr (7, [.int v_x_number, .int v_x_limit, .ref x_totals, .ref x_points, .ref x_out])), (x_totals, .inl (cI, 20, .inl f_x_totals)), (x_points, .inl (cI, 20, .inl f_x_points))]) [0, 1, 2] rfl
        have hD9 := hD.sub (ws' := [(h0, .inr (7, [.int v_x_number, .int v_x_limit, .ref x_totals, .ref x_points, .ref x_out])), (x_totals, .inl (cI, 20, .inl f_x_totals)), (x_points, .inl (cI, 20, .inl f_x_points))]) [0, 1, 2] (by decide) rfl
        have hf9_0 : 0 ≤ (1 : Int32).toInt ∧ (1 : Int32).toInt ≤ 1 := by omega
        exact W.zret (v := 1) hx hb hr rfl (fun t ht hW => ⟨⟨1, 1, rfl, rfl, hf9_0, by rw [ht]; exact hP9, va_K.moved hW.alike hK, hD9⟩, hS.F ht⟩) hS.2.2 dX7_standsAhead_71
  ·
    have c_3 : ¬ ((v_1).toInt = (v_2).toInt) := zz_eqn rfl rfl c_3
    refine lv_aload_n hx hb dX7_standsAhead_15 rfl (lv_at hl 0 rfl) ?_
    refine va_get (D := (dC, dI)) (ci := 7) (v := .ref x_totals) (C := RX7) (T := TX7) (N := 5) hx hb hts hiX7 hown hK hP 0 rfl rfl 2 (by decide) hw0 (fun _ h9 => h9) rfl dX7_standsAhead_16 ?_
    refine lv_iload_n hx hb dX7_standsAhead_19 rfl (lv_at hl 1 rfl) ?_
    refine va_iald hx hb hK hP 1 0 rfl rfl (zz_in (a := pO_i) pO_h (by omega) (by omega)) dX7_standsAhead_20 ?_
    refine lv_topi (fun v_11 ev_11 => ?_)
    obtain rfl : v_1 = v_11 := ev_1.trans ev_11.symm
    refine lv_aload_n hx hb dX7_standsAhead_21 rfl (lv_at hl 0 rfl) ?_
    refine va_get (D := (dC, dI)) (ci := 7) (v := .ref x_totals) (C := RX7) (T := TX7) (N := 5) hx hb hts hiX7 hown hK hP 0 rfl rfl 2 (by decide) hw0 (fun _ h9 => h9) rfl dX7_standsAhead_22 ?_
    refine lv_iload_n hx hb dX7_standsAhead_25 rfl (lv_at hl 2 rfl) ?_
    refine va_iald hx hb hK hP 1 0 rfl rfl (zz_in (a := pP_i) pP_h (by omega) (by omega)) dX7_standsAhead_26 ?_
    refine lv_topi (fun v_12 ev_12 => ?_)
    obtain rfl : v_2 = v_12 := ev_2.trans ev_12.symm
    refine lv_icmp_ge (tgt := 34) hx hb dX7_standsAhead_27 (by decide) (fun c_13 => ?_) (fun c_13 => ?_)
    ·
      have c_13 : (v_2).toInt ≤ (v_1).toInt := zz_le rfl rfl c_13
      refine lv_iconst (v := 0) hx hb dX7_standsAhead_34 (by decide) ?_
      have hu9 : (0 : Int32).toInt = (0:Int) := (by decide)
      have hP9 := hP.sub (ws' := [(h0, .inr (7, [.int v_x_number, .int v_x_limit, .ref x_totals, .ref x_points, .ref x_out])), (x_totals, .inl (cI, 20, .inl f_x_totals)), (x_points, .inl (cI, 20, .inl f_x_points))]) [0, 1, 2] rfl
      have hD9 := hD.sub (ws' := [(h0, .inr (7, [.int v_x_number, .int v_x_limit, .ref x_totals, .ref x_points, .ref x_out])), (x_totals, .inl (cI, 20, .inl f_x_totals)), (x_points, .inl (cI, 20, .inl f_x_points))]) [0, 1, 2] (by decide) rfl
      have hf9_0 : 0 ≤ (0 : Int32).toInt ∧ (0 : Int32).toInt ≤ 1 := by omega
      exact W.zret (v := 0) hx hb hr rfl (fun t ht hW => ⟨⟨0, 0, rfl, rfl, hf9_0, by rw [ht]; exact hP9, va_K.moved hW.alike hK, hD9⟩, hS.F ht⟩) hS.2.2 dX7_standsAhead_35
    ·
      have c_13 : ¬ ((v_2).toInt ≤ (v_1).toInt) := zz_len rfl rfl c_13
      refine lv_iconst (v := 1) hx hb dX7_standsAhead_30 (by decide) ?_
      refine lv_goto (tgt := 35) hx hb dX7_standsAhead_31 (by decide) ?_
      have hu9 : (1 : Int32).toInt = (1:Int) := (by decide)
      have hP9 := hP.sub (ws' := [(h0, .inr (7, [.int v_x_number, .int v_x_limit, .ref x_totals, .ref x_points, .ref x_out])), (x_totals, .inl (cI, 20, .inl f_x_totals)), (x_points, .inl (cI, 20, .inl f_x_points))]) [0, 1, 2] rfl
      have hD9 := hD.sub (ws' := [(h0, .inr (7, [.int v_x_number, .int v_x_limit, .ref x_totals, .ref x_points, .ref x_out])), (x_totals, .inl (cI, 20, .inl f_x_totals)), (x_points, .inl (cI, 20, .inl f_x_points))]) [0, 1, 2] (by decide) rfl
      have hf9_0 : 0 ≤ (1 : Int32).toInt ∧ (1 : Int32).toInt ≤ 1 := by omega
      exact W.zret (v := 1) hx hb hr rfl (fun t ht hW => ⟨⟨1, 1, rfl, rfl, hf9_0, by rw [ht]; exact hP9, va_K.moved hW.alike hK, hD9⟩, hS.F ht⟩) hS.2.2 dX7_standsAhead_35

set_option maxHeartbeats 8000000 in
set_option maxRecDepth 100000 in
theorem c_X7_standingOf (l : Launch) (dC : Nat → ClassId) (dI : Nat → Nat → Nat) (cI cZ : ClassId) (sz : Nat) (h0 : Nat) (pR : Int32) (pR_i : Int) (pR_h : pR.toInt = pR_i) (B_pR : 0 ≤ pR_i ∧ pR_i ≤ 19) (pN : Int32) (pN_i : Int) (pN_h : pN.toInt = pN_i) (v_x_number : Int32) (v_x_number_i : Int) (v_x_number_h : v_x_number.toInt = v_x_number_i) (B_v_x_number : 0 ≤ v_x_number_i ∧ v_x_number_i ≤ 20) (v_x_limit : Int32) (v_x_limit_i : Int) (v_x_limit_h : v_x_limit.toInt = v_x_limit_i) (x_totals : Nat) (x_points : Nat) (x_out : Nat) (f_x_totals : Nat → Int32) (f_x_points : Nat → Int32) (f_x_out : Nat → Int32) : Met l yX7_standingOf (Cond.code yX7_standingOf cX7_standingOf 5 (some .int) :: lw_good) ({ frames := 1, cells := 0, slots := 0, locals := 22 }) (va_Pc [.ref h0, .int pR, .int pN] (fun U => U.heap.size = sz ∧ va_P (dC, dI) vwCl [(h0, .inr (7, [.int v_x_number, .int v_x_limit, .ref x_totals, .ref x_points, .ref x_out])), (x_totals, .inl (cI, 20, .inl f_x_totals)), (x_points, .inl (cI, 20, .inl f_x_points)), (x_out, .inl (cZ, 20, .inl f_x_out))] U.heap ∧ va_K (dC, dI) vwCl [(cI, .int), (cZ, .boolean)] U ∧ va_D (fun _ => True) [(h0, .inr (7, [.int v_x_number, .int v_x_limit, .ref x_totals, .ref x_points, .ref x_out])), (x_totals, .inl (cI, 20, .inl f_x_totals)), (x_points, .inl (cI, 20, .inl f_x_points)), (x_out, .inl (cZ, 20, .inl f_x_out))])) (va_Qi (fun (r u : Int32) => r = u) (fun u t => va_P (dC, dI) vwCl [(h0, .inr (7, [.int v_x_number, .int v_x_limit, .ref x_totals, .ref x_points, .ref x_out])), (x_totals, .inl (cI, 20, .inl f_x_totals)), (x_points, .inl (cI, 20, .inl f_x_points)), (x_out, .inl (cZ, 20, .inl f_x_out))] t.heap ∧ va_K (dC, dI) vwCl [(cI, .int), (cZ, .boolean)] t ∧ va_D (va_A [(h0, .inr (7, [.int v_x_number, .int v_x_limit, .ref x_totals, .ref x_points, .ref x_out])), (x_totals, .inl (cI, 20, .inl f_x_totals)), (x_points, .inl (cI, 20, .inl f_x_points)), (x_out, .inl (cZ, 20, .inl f_x_out))] sz) [(h0, .inr (7, [.int v_x_number, .int v_x_limit, .ref x_totals, .ref x_points, .ref x_out])), (x_totals, .inl (cI, 20, .inl f_x_totals)), (x_points, .inl (cI, 20, .inl f_x_points)), (x_out, .inl (cZ, 20, .inl f_x_out))]) (va_A [(h0, .inr (7, [.int v_x_number, .int v_x_limit, .ref x_totals, .ref x_points, .ref x_out])), (x_totals, .inl (cI, 20, .inl f_x_totals)), (x_points, .inl (cI, 20, .inl f_x_points)), (x_out, .inl (cZ, 20, .inl f_x_out))] sz)) 0 0 (va_A [(h0, .inr (7, [.int v_x_number, .int v_x_limit, .ref x_totals, .ref x_points, .ref x_out])), (x_totals, .inl (cI, 20, .inl f_x_totals)), (x_points, .inl (cI, 20, .inl f_x_points)), (x_out, .inl (cZ, 20, .inl f_x_out))] sz) := by
  refine Met.ofW (cc := cX7_standingOf) (maxL := 5) (ret := (some .int)) (by decide) rfl ?_
  intro p e s m args below meth c s₁ B hml hv
  obtain ⟨rfl, hsz, hP, hK, hD0⟩ := hv
  have hx := B.exec
  have hb := B.bytes
  have hr := B.returns
  have hts := atoms_spec (ws := Cond.code yX7_standingOf cX7_standingOf 5 (some .int) :: lw_good) B.pre
  have hown : s.vm.findClass RX7 = some m.cls := findClass_of_methodNamed B.named
  have hlocks := B.notSynchronized
  have hiX7 : ∀ w ∈ wsX70, w ∈ (Cond.code yX7_standingOf cX7_standingOf 5 (some .int) :: lw_good) := fun w h => List.mem_cons_of_mem _ (zi_X7 w h)
  have hw0 := hts (.fieldLink RX7 25 "BunchRace$Stages" "out" "[Z") (List.mem_cons_of_mem _ zw_321)
  have hw1 := hts (.initialized RX7) (List.mem_cons_of_mem _ zw_57)
  have hw2 := hts (.methodLink RX7 50 yX7_standsAhead) (List.mem_cons_of_mem _ zw_673)
  have hw3 := hts (.instanceMethod yX7_standsAhead) (List.mem_cons_of_mem _ zw_675)
  have hw4 := hts (.selects RX7 yX7_standsAhead yX7_standsAhead) (List.mem_cons_of_mem _ zw_18)
  subst hsz
  have hD := hD0.self (sz := s.heap.size)
  generalize hAe : va_A [(h0, .inr (7, [.int v_x_number, .int v_x_limit, .ref x_totals, .ref x_points, .ref x_out])), (x_totals, .inl (cI, 20, .inl f_x_totals)), (x_points, .inl (cI, 20, .inl f_x_points)), (x_out, .inl (cZ, 20, .inl f_x_out))] s.heap.size = A at hD ⊢
  have hA : ∀ q : Nat, s.heap.size ≤ q → A q := fun q h => by rw [← hAe]; exact Or.inr h
  have hS : va_S A s.heap s.heap [] := va_S.rf
  have hP : va_P (dC, dI) vwCl [(h0, .inr (7, [.int v_x_number, .int v_x_limit, .ref x_totals, .ref x_points, .ref x_out])), (x_totals, .inl (cI, 20, .inl f_x_totals)), (x_points, .inl (cI, 20, .inl f_x_points)), (x_out, .inl (cZ, 20, .inl f_x_out))] s.heap := hP
  have hl := lv_entry ([.ref h0, .int pR, .int pN]) (n := 5) (Nat.le_of_ble_eq_true rfl)
  rw [lg_entry_eq]
  generalize (lg_sl ([.ref h0, .int pR, .int pN]) ++ List.replicate (5 - (lg_sl ([.ref h0, .int pR, .int pN])).length) Slot.unset).toArray = ls at hl ⊢
  have hl : lv_has ls 5 [(0, .ref h0), (1, .int pR), (2, .int pN)] := hl
  refine lv_aload_n hx hb dX7_standingOf_0 rfl (lv_at hl 0 rfl) ?_
  refine va_get (D := (dC, dI)) (ci := 7) (v := .ref x_out) (C := RX7) (T := TX7) (N := 5) hx hb hts hiX7 hown hK hP 0 rfl rfl 4 (by decide) hw0 (fun _ h9 => h9) rfl dX7_standingOf_1 ?_
  refine lv_iload_n hx hb dX7_standingOf_4 rfl (lv_at hl 1 rfl) ?_
  refine va_zald hx hb hK hP 3 1 rfl rfl (zz_in (a := pR_i) pR_h (by omega) (by omega)) dX7_standingOf_5 ?_
  refine lv_topi (fun v_1 ev_1 => ?_)
  refine lv_if_eq (tgt := 11) hx hb dX7_standingOf_6 (by decide) (fun c_2 => ?_) (fun c_2 => ?_)
  ·
    have c_2 : (v_1).toInt = (0:Int) := zz_eq rfl (by decide) c_2
    refine lv_iconst (v := 1) hx hb dX7_standingOf_11 (by decide) ?_
    refine lv_istore_n (lv' := [(3, .int 1), (0, .ref h0), (1, .int pR), (2, .int pN)]) hx hb dX7_standingOf_12 rfl hl (by decide) rfl (fun ls hl => ?_)
    refine lv_iconst (v := 0) hx hb dX7_standingOf_13 (by decide) ?_
    refine lv_istore (lv' := [(4, .int 0), (3, .int 1), (0, .ref h0), (1, .int pR), (2, .int pN)]) hx hb dX7_standingOf_14 hl (by decide) rfl (fun ls hl => ?_)
    have L_16 : ∀ (n : Nat) (i4_L_16 : Int32) (i3_L_16 : Int32) (H : Heap) (locs : List Loc) (ls : Array Slot), (0 ≤ i4_L_16.toInt) → (i4_L_16.toInt ≤ 20) → (20 - i4_L_16.toInt) < (n : Int) → va_P (dC, dI) vwCl [(h0, .inr (7, [.int v_x_number, .int v_x_limit, .ref x_totals, .ref x_points, .ref x_out])), (x_totals, .inl (cI, 20, .inl f_x_totals)), (x_points, .inl (cI, 20, .inl f_x_points)), (x_out, .inl (cZ, 20, .inl f_x_out))] H → va_D A [(h0, .inr (7, [.int v_x_number, .int v_x_limit, .ref x_totals, .ref x_points, .ref x_out])), (x_totals, .inl (cI, 20, .inl f_x_totals)), (x_points, .inl (cI, 20, .inl f_x_points)), (x_out, .inl (cZ, 20, .inl f_x_out))] → va_S A s.heap H locs → lv_has ls 5 [(4, .int i4_L_16), (3, .int i3_L_16), (0, .ref h0), (1, .int pR), (2, .int pN)] → W p l e ((headSpec (Cond.code yX7_standingOf cX7_standingOf 5 (some .int) :: lw_good) ({ frames := 1, cells := 0, slots := 0, locals := 22 })).room) s m (([.ref h0, .int pR, .int pN] : List Value).toArray) below meth c H locs 0 0 (MQ below (va_Qi (fun (r u : Int32) => r = u) (fun u t => va_P (dC, dI) vwCl [(h0, .inr (7, [.int v_x_number, .int v_x_limit, .ref x_totals, .ref x_points, .ref x_out])), (x_totals, .inl (cI, 20, .inl f_x_totals)), (x_points, .inl (cI, 20, .inl f_x_points)), (x_out, .inl (cZ, 20, .inl f_x_out))] t.heap ∧ va_K (dC, dI) vwCl [(cI, .int), (cZ, .boolean)] t ∧ va_D A [(h0, .inr (7, [.int v_x_number, .int v_x_limit, .ref x_totals, .ref x_points, .ref x_out])), (x_totals, .inl (cI, 20, .inl f_x_totals)), (x_points, .inl (cI, 20, .inl f_x_points)), (x_out, .inl (cZ, 20, .inl f_x_out))]) A) (([.ref h0, .int pR, .int pN] : List Value).toArray) s 0 0 A) (F0 m 16 ls []) := by
      intro n
      induction n with
      | zero =>
        intro i4_L_16 i3_L_16 H locs ls hI0 hI1 hM
        exact absurd hM (by omega)
      | succ n ih =>
        intro i4_L_16 i3_L_16 H locs ls hI0 hI1 hM hP hD hS hl
        have ih_17 := ih
        have hi_18 := hI0
        have hi_19 := hI1
        refine lv_iload hx hb dX7_standingOf_16 (lv_at hl 0 rfl) ?_
        refine lv_iload_n hx hb dX7_standingOf_18 rfl (lv_at hl 4 rfl) ?_
        refine lv_icmp_ge (tgt := 58) hx hb dX7_standingOf_19 (by decide) (fun c_20 => ?_) (fun c_20 => ?_)
        ·
          have c_20 : pN_i ≤ (i4_L_16).toInt := zz_le pN_h rfl c_20
          refine lv_iload_n hx hb dX7_standingOf_58 rfl (lv_at hl 1 rfl) ?_
          have hu9 : (i3_L_16 : Int32).toInt = (i3_L_16).toInt := rfl
          have hP9 := hP.sub (ws' := [(h0, .inr (7, [.int v_x_number, .int v_x_limit, .ref x_totals, .ref x_points, .ref x_out])), (x_totals, .inl (cI, 20, .inl f_x_totals)), (x_points, .inl (cI, 20, .inl f_x_points)), (x_out, .inl (cZ, 20, .inl f_x_out))]) [0, 1, 2, 3] rfl
          have hD9 := hD.sub (ws' := [(h0, .inr (7, [.int v_x_number, .int v_x_limit, .ref x_totals, .ref x_points, .ref x_out])), (x_totals, .inl (cI, 20, .inl f_x_totals)), (x_points, .inl (cI, 20, .inl f_x_points)), (x_out, .inl (cZ, 20, .inl f_x_out))]) [0, 1, 2, 3] (by decide) rfl
          exact W.iret (v := i3_L_16) hx hb hr (fun t ht hW => ⟨⟨i3_L_16, i3_L_16, rfl, rfl, by rw [ht]; exact hP9, va_K.moved hW.alike hK, hD9⟩, hS.F ht⟩) hS.2.2 dX7_standingOf_59
        ·
          have c_20 : ¬ (pN_i ≤ (i4_L_16).toInt) := zz_len pN_h rfl c_20
          refine lv_iload hx hb dX7_standingOf_22 (lv_at hl 0 rfl) ?_
          refine lv_bipush (v := 20) hx hb dX7_standingOf_24 (by decide) ?_
          refine lv_icmp_ge (tgt := 58) hx hb dX7_standingOf_26 (by decide) (fun c_21 => ?_) (fun c_21 => ?_)
          ·
            have c_21 : (20:Int) ≤ (i4_L_16).toInt := zz_le (by decide) rfl c_21
            refine lv_iload_n hx hb dX7_standingOf_58 rfl (lv_at hl 1 rfl) ?_
            have hu9 : (i3_L_16 : Int32).toInt = (i3_L_16).toInt := rfl
            have hP9 := hP.sub (ws' := [(h0, .inr (7, [.int v_x_number, .int v_x_limit, .ref x_totals, .ref x_points, .ref x_out])), (x_totals, .inl (cI, 20, .inl f_x_totals)), (x_points, .inl (cI, 20, .inl f_x_points)), (x_out, .inl (cZ, 20, .inl f_x_out))]) [0, 1, 2, 3] rfl
            have hD9 := hD.sub (ws' := [(h0, .inr (7, [.int v_x_number, .int v_x_limit, .ref x_totals, .ref x_points, .ref x_out])), (x_totals, .inl (cI, 20, .inl f_x_totals)), (x_points, .inl (cI, 20, .inl f_x_points)), (x_out, .inl (cZ, 20, .inl f_x_out))]) [0, 1, 2, 3] (by decide) rfl
            exact W.iret (v := i3_L_16) hx hb hr (fun t ht hW => ⟨⟨i3_L_16, i3_L_16, rfl, rfl, by rw [ht]; exact hP9, va_K.moved hW.alike hK, hD9⟩, hS.F ht⟩) hS.2.2 dX7_standingOf_59
          ·
            have c_21 : ¬ ((20:Int) ≤ (i4_L_16).toInt) := zz_len (by decide) rfl c_21
            refine lv_aload_n hx hb dX7_standingOf_29 rfl (lv_at hl 2 rfl) ?_
            refine va_get (D := (dC, dI)) (ci := 7) (v := .ref x_out) (C := RX7) (T := TX7) (N := 5) hx hb hts hiX7 hown hK hP 0 rfl rfl 4 (by decide) hw0 (fun _ h9 => h9) rfl dX7_standingOf_30 ?_
            refine lv_iload hx hb dX7_standingOf_33 (lv_at hl 0 rfl) ?_
            refine va_zald hx hb hK hP 3 1 rfl rfl (zz_in (a := (i4_L_16).toInt) rfl (by omega) (by omega)) dX7_standingOf_35 ?_
            refine lv_topi (fun v_22 ev_22 => ?_)
            refine lv_if_ne (tgt := 52) hx hb dX7_standingOf_36 (by decide) (fun c_23 => ?_) (fun c_23 => ?_)
            ·
              have c_23 : ¬ ((v_22).toInt = (0:Int)) := zz_eqn rfl (by decide) c_23
              obtain ⟨v_24, ev_24⟩ : ∃ y : Int32, y = i4_L_16 + 1 := ⟨_, rfl⟩
              have hv_24 : v_24.toInt = ((i4_L_16).toInt + (1:Int)) := by rw [ev_24]; exact zz_addI rfl (by decide) (by omega) (by omega)
              refine lv_iinc (v := v_24) (lv' := [(4, .int v_24), (3, .int i3_L_16), (0, .ref h0), (1, .int pR), (2, .int pN)]) hx hb dX7_standingOf_52 hl (k := 0) rfl (by rw [ev_24]; rfl) (by decide) rfl (fun ls hl => ?_)
              refine lv_goto (tgt := 16) hx hb dX7_standingOf_55 (by decide) ?_
              have hb_25_i4_L_16 : (v_24 : Int32).toInt = ((i4_L_16).toInt + (1:Int)) := hv_24
              have hb_25_i3_L_16 : (i3_L_16 : Int32).toInt = (i3_L_16).toInt := rfl
              exact ih_17 v_24 i3_L_16 H locs ls (by omega) (by omega) (by omega) (hP.sub [0, 1, 2, 3] rfl) (hD.sub [0, 1, 2, 3] (by decide) rfl) hS (lv_sub hl [0, 1, 2, 3, 4] rfl)
            ·
              have c_23 : (v_22).toInt = (0:Int) := zz_eq rfl (by decide) c_23
              refine lv_aload_n hx hb dX7_standingOf_39 rfl (lv_at hl 2 rfl) ?_
              refine lv_iload hx hb dX7_standingOf_40 (lv_at hl 0 rfl) ?_
              refine lv_iload_n hx hb dX7_standingOf_42 rfl (lv_at hl 3 rfl) ?_
              have hPc := hP.sub (ws' := [(h0, .inr (7, [.int v_x_number, .int v_x_limit, .ref x_totals, .ref x_points, .ref x_out])), (x_totals, .inl (cI, 20, .inl f_x_totals)), (x_points, .inl (cI, 20, .inl f_x_points))]) [0, 1, 2] rfl
              have hDc := hD.sub (ws' := [(h0, .inr (7, [.int v_x_number, .int v_x_limit, .ref x_totals, .ref x_points, .ref x_out])), (x_totals, .inl (cI, 20, .inl f_x_totals)), (x_points, .inl (cI, 20, .inl f_x_points))]) [0, 1, 2] (by decide) rfl
              have hFc := va_free (wc := [(h0, .inr (7, [.int v_x_number, .int v_x_limit, .ref x_totals, .ref x_points, .ref x_out])), (x_totals, .inl (cI, 20, .inl f_x_totals)), (x_points, .inl (cI, 20, .inl f_x_points))]) hD hS hA [0, 1, 2] rfl
              refine va_calli (va_runV (As := [.int i4_L_16, .int pR]) (rest := []) ⟨hx, hb, hml, hown, hts⟩ (c_X7_standsAhead l dC dI cI cZ (H).size h0 i4_L_16 ((i4_L_16).toInt) rfl (by omega) pR pR_i pR_h (by omega) v_x_number v_x_number_i v_x_number_h (by omega) v_x_limit v_x_limit_i v_x_limit_h x_totals x_points x_out f_x_totals f_x_points) ⟨callB_of 2 hts (zz_good zw_676) rfl rfl rfl hw1 hw2 (by decide +kernel) ⟨Nat.le_of_ble_eq_true rfl, Nat.le_of_ble_eq_true rfl⟩, hw3, hw4⟩ ⟨fun a U g mk q => by obtain ⟨q0, q1, qP, qK, qD⟩ := q; exact ⟨q0, q1, qP, va_K.moved (u := U) (U := U.calling g mk a) (Vm.Alike.refl U.vm) qK, qD⟩, va_recv hK hPc (ci := 7) (q0 := 0) rfl rfl, fun U hU hW => ⟨rfl, by rw [hU], by rw [hU]; exact hPc, va_K.moved hW.alike hK, hDc.weaken (fun _ _ _ _ => trivial)⟩⟩ rfl rfl hl.1 rfl (lv_room (Nat.le_of_ble_eq_true rfl)) dX7_standingOf_43 ⟨Nat.le_of_ble_eq_true rfl, Nat.le_of_ble_eq_true rfl⟩) hS (fun q _ h => hFc q h) hFc (fun r_26 u t H1 locs ht hvm hpost hB hz1 hk1 hS => ?_)
              subst hpost
              obtain ⟨hf_27, hP1, hK1, hD1⟩ := hB
              rw [ht] at hP1
              obtain ⟨hP, hD⟩ := va_join (wr := [(x_out, .inl (cZ, 20, .inl f_x_out))]) (w1 := [(h0, .inr (7, [.int v_x_number, .int v_x_limit, .ref x_totals, .ref x_points, .ref x_out])), (x_totals, .inl (cI, 20, .inl f_x_totals)), (x_points, .inl (cI, 20, .inl f_x_points))]) hP hD [0, 1, 2] [3] rfl rfl (by decide) (by decide) hk1 hFc hP1 hD1
              generalize H1 = H at hP hS ⊢
              have hP : va_P (dC, dI) vwCl [(x_out, .inl (cZ, 20, .inl f_x_out)), (h0, .inr (7, [.int v_x_number, .int v_x_limit, .ref x_totals, .ref x_points, .ref x_out])), (x_totals, .inl (cI, 20, .inl f_x_totals)), (x_points, .inl (cI, 20, .inl f_x_points))] H := hP
              have hD : va_D A [(x_out, .inl (cZ, 20, .inl f_x_out)), (h0, .inr (7, [.int v_x_number, .int v_x_limit, .ref x_totals, .ref x_points, .ref x_out])), (x_totals, .inl (cI, 20, .inl f_x_totals)), (x_points, .inl (cI, 20, .inl f_x_points))] := hD
              have hf_27 : 0 ≤ r_26.toInt ∧ r_26.toInt ≤ 1 := hf_27
              refine lv_if_eq (tgt := 52) hx hb dX7_standingOf_46 (by decide) (fun c_28 => ?_) (fun c_28 => ?_)
              ·
                have c_28 : (r_26).toInt = (0:Int) := zz_eq rfl (by decide) c_28
                obtain ⟨v_29, ev_29⟩ : ∃ y : Int32, y = i4_L_16 + 1 := ⟨_, rfl⟩
                have hv_29 : v_29.toInt = ((i4_L_16).toInt + (1:Int)) := by rw [ev_29]; exact zz_addI rfl (by decide) (by omega) (by omega)
                refine lv_iinc (v := v_29) (lv' := [(4, .int v_29), (3, .int i3_L_16), (0, .ref h0), (1, .int pR), (2, .int pN)]) hx hb dX7_standingOf_52 hl (k := 0) rfl (by rw [ev_29]; rfl) (by decide) rfl (fun ls hl => ?_)
                refine lv_goto (tgt := 16) hx hb dX7_standingOf_55 (by decide) ?_
                have hb_30_i4_L_16 : (v_29 : Int32).toInt = ((i4_L_16).toInt + (1:Int)) := hv_29
                have hb_30_i3_L_16 : (i3_L_16 : Int32).toInt = (i3_L_16).toInt := rfl
                exact ih_17 v_29 i3_L_16 H locs ls (by omega) (by omega) (by omega) (hP.sub [1, 2, 3, 0] rfl) (hD.sub [1, 2, 3, 0] (by decide) rfl) hS (lv_sub hl [0, 1, 2, 3, 4] rfl)
              ·
                have c_28 : ¬ ((r_26).toInt = (0:Int)) := zz_eqn rfl (by decide) c_28
                obtain ⟨v_31, ev_31⟩ : ∃ y : Int32, y = i3_L_16 + 1 := ⟨_, rfl⟩
                refine lv_iinc (v := v_31) (lv' := [(3, .int v_31), (4, .int i4_L_16), (0, .ref h0), (1, .int pR), (2, .int pN)]) hx hb dX7_standingOf_49 hl (k := 1) rfl (by rw [ev_31]; rfl) (by decide) rfl (fun ls hl => ?_)
                obtain ⟨v_32, ev_32⟩ : ∃ y : Int32, y = i4_L_16 + 1 := ⟨_, rfl⟩
                have hv_32 : v_32.toInt = ((i4_L_16).toInt + (1:Int)) := by rw [ev_32]; exact zz_addI rfl (by decide) (by omega) (by omega)
                refine lv_iinc (v := v_32) (lv' := [(4, .int v_32), (3, .int v_31), (0, .ref h0), (1, .int pR), (2, .int pN)]) hx hb dX7_standingOf_52 hl (k := 1) rfl (by rw [ev_32]; rfl) (by decide) rfl (fun ls hl => ?_)
                refine lv_goto (tgt := 16) hx hb dX7_standingOf_55 (by decide) ?_
                have hb_33_i4_L_16 : (v_32 : Int32).toInt = ((i4_L_16).toInt + (1:Int)) := hv_32
                have hb_33_i3_L_16 : (v_31 : Int32).toInt = (v_31).toInt := rfl
                exact ih_17 v_32 v_31 H locs ls (by omega) (by omega) (by omega) (hP.sub [1, 2, 3, 0] rfl) (hD.sub [1, 2, 3, 0] (by decide) rfl) hS (lv_sub hl [0, 1, 2, 3, 4] rfl)
    have hb_34_i4_L_16 : (0 : Int32).toInt = (0:Int) := (by decide)
    have hb_34_i3_L_16 : (1 : Int32).toInt = (1:Int) := (by decide)
    exact L_16 1000 0 1 s.heap [] ls (by omega) (by omega) (by omega) (hP.sub [0, 1, 2, 3] rfl) (hD.sub [0, 1, 2, 3] (by decide) rfl) hS (lv_sub hl [0, 1, 2, 3, 4] rfl)
  ·
    have c_2 : ¬ ((v_1).toInt = (0:Int)) := zz_eqn rfl (by decide) c_2
    refine lv_iconst (v := 0) hx hb dX7_standingOf_9 (by decide) ?_
    have hu9 : (0 : Int32).toInt = (0:Int) := (by decide)
    have hP9 := hP.sub (ws' := [(h0, .inr (7, [.int v_x_number, .int v_x_limit, .ref x_totals, .ref x_points, .ref x_out])), (x_totals, .inl (cI, 20, .inl f_x_totals)), (x_points, .inl (cI, 20, .inl f_x_points)), (x_out, .inl (cZ, 20, .inl f_x_out))]) [0, 1, 2, 3] rfl
    have hD9 := hD.sub (ws' := [(h0, .inr (7, [.int v_x_number, .int v_x_limit, .ref x_totals, .ref x_points, .ref x_out])), (x_totals, .inl (cI, 20, .inl f_x_totals)), (x_points, .inl (cI, 20, .inl f_x_points)), (x_out, .inl (cZ, 20, .inl f_x_out))]) [0, 1, 2, 3] (by decide) rfl
    exact W.iret (v := 0) hx hb hr (fun t ht hW => ⟨⟨0, 0, rfl, rfl, by rw [ht]; exact hP9, va_K.moved hW.alike hK, hD9⟩, hS.F ht⟩) hS.2.2 dX7_standingOf_10

set_option maxHeartbeats 8000000 in
set_option maxRecDepth 100000 in
theorem c_X7_countsFor (l : Launch) (dC : Nat → ClassId) (dI : Nat → Nat → Nat) (cI cZ : ClassId) (sz : Nat) (h0 : Nat) (pT : Int32) (pT_i : Int) (pT_h : pT.toInt = pT_i) (pR : Int32) (pR_i : Int) (pR_h : pR.toInt = pR_i) (B_pR : 0 ≤ pR_i ∧ pR_i ≤ 19) (pRi : Nat) (v_x_number : Int32) (v_x_number_i : Int) (v_x_number_h : v_x_number.toInt = v_x_number_i) (B_v_x_number : 0 ≤ v_x_number_i ∧ v_x_number_i ≤ 20) (v_x_limit : Int32) (v_x_limit_i : Int) (v_x_limit_h : v_x_limit.toInt = v_x_limit_i) (x_totals : Nat) (x_points : Nat) (x_out : Nat) (f_x_out : Nat → Int32) (v_r_number : Int32) (v_r_number_i : Int) (v_r_number_h : v_r_number.toInt = v_r_number_i) (B_v_r_number : 0 ≤ v_r_number_i ∧ v_r_number_i ≤ 20) (r_teams : Nat) (r_steady : Nat) (r_full : Nat) (r_climb : Nat) (f_r_teams : Nat → Int32) (R_r_teams : zr f_r_teams 20 (0) (4)) : Met l yX7_countsFor (Cond.code yX7_countsFor cX7_countsFor 4 (some .boolean) :: lw_good) ({ frames := 0, cells := 0, slots := 0, locals := 0 }) (va_Pc [.ref h0, .int pT, .int pR, .ref pRi] (fun U => U.heap.size = sz ∧ va_P (dC, dI) vwCl [(h0, .inr (7, [.int v_x_number, .int v_x_limit, .ref x_totals, .ref x_points, .ref x_out])), (x_out, .inl (cZ, 20, .inl f_x_out)), (pRi, .inr (5, [.int v_r_number, .ref r_teams, .ref r_steady, .ref r_full, .ref r_climb])), (r_teams, .inl (cI, 20, .inl f_r_teams))] U.heap ∧ va_K (dC, dI) vwCl [(cI, .int), (cZ, .boolean)] U ∧ va_D (fun _ => True) [(h0, .inr (7, [.int v_x_number, .int v_x_limit, .ref x_totals, .ref x_points, .ref x_out])), (x_out, .inl (cZ, 20, .inl f_x_out)), (pRi, .inr (5, [.int v_r_number, .ref r_teams, .ref r_steady, .ref r_full, .ref r_climb])), (r_teams, .inl (cI, 20, .inl f_r_teams))])) (va_Qi (fun (r u : Int32) => r = u) (fun u t => (0 ≤ u.toInt ∧ u.toInt ≤ 1) ∧ va_P (dC, dI) vwCl [(h0, .inr (7, [.int v_x_number, .int v_x_limit, .ref x_totals, .ref x_points, .ref x_out])), (x_out, .inl (cZ, 20, .inl f_x_out)), (pRi, .inr (5, [.int v_r_number, .ref r_teams, .ref r_steady, .ref r_full, .ref r_climb])), (r_teams, .inl (cI, 20, .inl f_r_teams))] t.heap ∧ va_K (dC, dI) vwCl [(cI, .int), (cZ, .boolean)] t ∧ va_D (va_A [(h0, .inr (7, [.int v_x_number, .int v_x_limit, .ref x_totals, .ref x_points, .ref x_out])), (x_out, .inl (cZ, 20, .inl f_x_out)), (pRi, .inr (5, [.int v_r_number, .ref r_teams, .ref r_steady, .ref r_full, .ref r_climb])), (r_teams, .inl (cI, 20, .inl f_r_teams))] sz) [(h0, .inr (7, [.int v_x_number, .int v_x_limit, .ref x_totals, .ref x_points, .ref x_out])), (x_out, .inl (cZ, 20, .inl f_x_out)), (pRi, .inr (5, [.int v_r_number, .ref r_teams, .ref r_steady, .ref r_full, .ref r_climb])), (r_teams, .inl (cI, 20, .inl f_r_teams))]) (va_A [(h0, .inr (7, [.int v_x_number, .int v_x_limit, .ref x_totals, .ref x_points, .ref x_out])), (x_out, .inl (cZ, 20, .inl f_x_out)), (pRi, .inr (5, [.int v_r_number, .ref r_teams, .ref r_steady, .ref r_full, .ref r_climb])), (r_teams, .inl (cI, 20, .inl f_r_teams))] sz)) 0 0 (va_A [(h0, .inr (7, [.int v_x_number, .int v_x_limit, .ref x_totals, .ref x_points, .ref x_out])), (x_out, .inl (cZ, 20, .inl f_x_out)), (pRi, .inr (5, [.int v_r_number, .ref r_teams, .ref r_steady, .ref r_full, .ref r_climb])), (r_teams, .inl (cI, 20, .inl f_r_teams))] sz) := by
  refine Met.ofW (cc := cX7_countsFor) (maxL := 4) (ret := (some .boolean)) (by decide) rfl ?_
  intro p e s m args below meth c s₁ B hml hv
  obtain ⟨rfl, hsz, hP, hK, hD0⟩ := hv
  have hx := B.exec
  have hb := B.bytes
  have hr := B.returns
  have hts := atoms_spec (ws := Cond.code yX7_countsFor cX7_countsFor 4 (some .boolean) :: lw_good) B.pre
  have hown : s.vm.findClass RX7 = some m.cls := findClass_of_methodNamed B.named
  have hlocks := B.notSynchronized
  have hiX5 : ∀ w ∈ wsX50, w ∈ (Cond.code yX7_countsFor cX7_countsFor 4 (some .boolean) :: lw_good) := fun w h => List.mem_cons_of_mem _ (zi_X5 w h)
  have hiX7 : ∀ w ∈ wsX70, w ∈ (Cond.code yX7_countsFor cX7_countsFor 4 (some .boolean) :: lw_good) := fun w h => List.mem_cons_of_mem _ (zi_X7 w h)
  have hw0 := hts (.fieldLink RX7 65 "BunchRace$Riders" "teams" "[I") (List.mem_cons_of_mem _ zw_80)
  have hw1 := hts (.fieldLink RX7 25 "BunchRace$Stages" "out" "[Z") (List.mem_cons_of_mem _ zw_321)
  subst hsz
  have hD := hD0.self (sz := s.heap.size)
  generalize hAe : va_A [(h0, .inr (7, [.int v_x_number, .int v_x_limit, .ref x_totals, .ref x_points, .ref x_out])), (x_out, .inl (cZ, 20, .inl f_x_out)), (pRi, .inr (5, [.int v_r_number, .ref r_teams, .ref r_steady, .ref r_full, .ref r_climb])), (r_teams, .inl (cI, 20, .inl f_r_teams))] s.heap.size = A at hD ⊢
  have hA : ∀ q : Nat, s.heap.size ≤ q → A q := fun q h => by rw [← hAe]; exact Or.inr h
  have hS : va_S A s.heap s.heap [] := va_S.rf
  have hP : va_P (dC, dI) vwCl [(h0, .inr (7, [.int v_x_number, .int v_x_limit, .ref x_totals, .ref x_points, .ref x_out])), (x_out, .inl (cZ, 20, .inl f_x_out)), (pRi, .inr (5, [.int v_r_number, .ref r_teams, .ref r_steady, .ref r_full, .ref r_climb])), (r_teams, .inl (cI, 20, .inl f_r_teams))] s.heap := hP
  have hl := lv_entry ([.ref h0, .int pT, .int pR, .ref pRi]) (n := 4) (Nat.le_of_ble_eq_true rfl)
  rw [lg_entry_eq]
  generalize (lg_sl ([.ref h0, .int pT, .int pR, .ref pRi]) ++ List.replicate (4 - (lg_sl ([.ref h0, .int pT, .int pR, .ref pRi])).length) Slot.unset).toArray = ls at hl ⊢
  have hl : lv_has ls 4 [(0, .ref h0), (1, .int pT), (2, .int pR), (3, .ref pRi)] := hl
  refine lv_aload_n hx hb dX7_countsFor_0 rfl (lv_at hl 3 rfl) ?_
  refine va_get (D := (dC, dI)) (ci := 5) (v := .ref r_teams) (C := RX5) (T := TX5) (N := 5) hx hb hts hiX5 hown hK hP 2 rfl rfl 1 (by decide) hw0 (fun _ h9 => h9) rfl dX7_countsFor_1 ?_
  refine lv_iload_n hx hb dX7_countsFor_4 rfl (lv_at hl 2 rfl) ?_
  refine va_iald hx hb hK hP 3 0 rfl rfl (zz_in (a := pR_i) pR_h (by omega) (by omega)) dX7_countsFor_5 ?_
  refine lv_topi (fun v_1 ev_1 => ?_)
  have bv_1 : 0 ≤ v_1.toInt ∧ v_1.toInt ≤ 4 := by rw [ev_1]; exact zr_get (a := pR_i) R_r_teams pR_h (by omega) (by omega)
  refine lv_iload_n hx hb dX7_countsFor_6 rfl (lv_at hl 1 rfl) ?_
  refine lv_icmp_ne (tgt := 23) hx hb dX7_countsFor_7 (by decide) (fun c_2 => ?_) (fun c_2 => ?_)
  ·
    have c_2 : ¬ ((v_1).toInt = pT_i) := zz_eqn rfl pT_h c_2
    refine lv_iconst (v := 0) hx hb dX7_countsFor_23 (by decide) ?_
    have hu9 : (0 : Int32).toInt = (0:Int) := (by decide)
    have hP9 := hP.sub (ws' := [(h0, .inr (7, [.int v_x_number, .int v_x_limit, .ref x_totals, .ref x_points, .ref x_out])), (x_out, .inl (cZ, 20, .inl f_x_out)), (pRi, .inr (5, [.int v_r_number, .ref r_teams, .ref r_steady, .ref r_full, .ref r_climb])), (r_teams, .inl (cI, 20, .inl f_r_teams))]) [0, 1, 2, 3] rfl
    have hD9 := hD.sub (ws' := [(h0, .inr (7, [.int v_x_number, .int v_x_limit, .ref x_totals, .ref x_points, .ref x_out])), (x_out, .inl (cZ, 20, .inl f_x_out)), (pRi, .inr (5, [.int v_r_number, .ref r_teams, .ref r_steady, .ref r_full, .ref r_climb])), (r_teams, .inl (cI, 20, .inl f_r_teams))]) [0, 1, 2, 3] (by decide) rfl
    have hf9_0 : 0 ≤ (0 : Int32).toInt ∧ (0 : Int32).toInt ≤ 1 := by omega
    exact W.zret (v := 0) hx hb hr rfl (fun t ht hW => ⟨⟨0, 0, rfl, rfl, hf9_0, by rw [ht]; exact hP9, va_K.moved hW.alike hK, hD9⟩, hS.F ht⟩) hS.2.2 dX7_countsFor_24
  ·
    have c_2 : (v_1).toInt = pT_i := zz_eq rfl pT_h c_2
    refine lv_aload_n hx hb dX7_countsFor_10 rfl (lv_at hl 0 rfl) ?_
    refine va_get (D := (dC, dI)) (ci := 7) (v := .ref x_out) (C := RX7) (T := TX7) (N := 5) hx hb hts hiX7 hown hK hP 0 rfl rfl 4 (by decide) hw1 (fun _ h9 => h9) rfl dX7_countsFor_11 ?_
    refine lv_iload_n hx hb dX7_countsFor_14 rfl (lv_at hl 2 rfl) ?_
    refine va_zald hx hb hK hP 1 1 rfl rfl (zz_in (a := pR_i) pR_h (by omega) (by omega)) dX7_countsFor_15 ?_
    refine lv_topi (fun v_3 ev_3 => ?_)
    refine lv_if_ne (tgt := 23) hx hb dX7_countsFor_16 (by decide) (fun c_4 => ?_) (fun c_4 => ?_)
    ·
      have c_4 : ¬ ((v_3).toInt = (0:Int)) := zz_eqn rfl (by decide) c_4
      refine lv_iconst (v := 0) hx hb dX7_countsFor_23 (by decide) ?_
      have hu9 : (0 : Int32).toInt = (0:Int) := (by decide)
      have hP9 := hP.sub (ws' := [(h0, .inr (7, [.int v_x_number, .int v_x_limit, .ref x_totals, .ref x_points, .ref x_out])), (x_out, .inl (cZ, 20, .inl f_x_out)), (pRi, .inr (5, [.int v_r_number, .ref r_teams, .ref r_steady, .ref r_full, .ref r_climb])), (r_teams, .inl (cI, 20, .inl f_r_teams))]) [0, 1, 2, 3] rfl
      have hD9 := hD.sub (ws' := [(h0, .inr (7, [.int v_x_number, .int v_x_limit, .ref x_totals, .ref x_points, .ref x_out])), (x_out, .inl (cZ, 20, .inl f_x_out)), (pRi, .inr (5, [.int v_r_number, .ref r_teams, .ref r_steady, .ref r_full, .ref r_climb])), (r_teams, .inl (cI, 20, .inl f_r_teams))]) [0, 1, 2, 3] (by decide) rfl
      have hf9_0 : 0 ≤ (0 : Int32).toInt ∧ (0 : Int32).toInt ≤ 1 := by omega
      exact W.zret (v := 0) hx hb hr rfl (fun t ht hW => ⟨⟨0, 0, rfl, rfl, hf9_0, by rw [ht]; exact hP9, va_K.moved hW.alike hK, hD9⟩, hS.F ht⟩) hS.2.2 dX7_countsFor_24
    ·
      have c_4 : (v_3).toInt = (0:Int) := zz_eq rfl (by decide) c_4
      refine lv_iconst (v := 1) hx hb dX7_countsFor_19 (by decide) ?_
      refine lv_goto (tgt := 24) hx hb dX7_countsFor_20 (by decide) ?_
      have hu9 : (1 : Int32).toInt = (1:Int) := (by decide)
      have hP9 := hP.sub (ws' := [(h0, .inr (7, [.int v_x_number, .int v_x_limit, .ref x_totals, .ref x_points, .ref x_out])), (x_out, .inl (cZ, 20, .inl f_x_out)), (pRi, .inr (5, [.int v_r_number, .ref r_teams, .ref r_steady, .ref r_full, .ref r_climb])), (r_teams, .inl (cI, 20, .inl f_r_teams))]) [0, 1, 2, 3] rfl
      have hD9 := hD.sub (ws' := [(h0, .inr (7, [.int v_x_number, .int v_x_limit, .ref x_totals, .ref x_points, .ref x_out])), (x_out, .inl (cZ, 20, .inl f_x_out)), (pRi, .inr (5, [.int v_r_number, .ref r_teams, .ref r_steady, .ref r_full, .ref r_climb])), (r_teams, .inl (cI, 20, .inl f_r_teams))]) [0, 1, 2, 3] (by decide) rfl
      have hf9_0 : 0 ≤ (1 : Int32).toInt ∧ (1 : Int32).toInt ≤ 1 := by omega
      exact W.zret (v := 1) hx hb hr rfl (fun t ht hW => ⟨⟨1, 1, rfl, rfl, hf9_0, by rw [ht]; exact hP9, va_K.moved hW.alike hK, hD9⟩, hS.F ht⟩) hS.2.2 dX7_countsFor_24

set_option maxHeartbeats 8000000 in
set_option maxRecDepth 100000 in
theorem c_X7_matesAhead (l : Launch) (dC : Nat → ClassId) (dI : Nat → Nat → Nat) (cI cZ : ClassId) (sz : Nat) (h0 : Nat) (pT : Int32) (pT_i : Int) (pT_h : pT.toInt = pT_i) (pR : Int32) (pR_i : Int) (pR_h : pR.toInt = pR_i) (B_pR : 0 ≤ pR_i ∧ pR_i ≤ 19) (pRi : Nat) (v_x_number : Int32) (v_x_number_i : Int) (v_x_number_h : v_x_number.toInt = v_x_number_i) (B_v_x_number : 0 ≤ v_x_number_i ∧ v_x_number_i ≤ 20) (v_x_limit : Int32) (v_x_limit_i : Int) (v_x_limit_h : v_x_limit.toInt = v_x_limit_i) (x_totals : Nat) (x_points : Nat) (x_out : Nat) (f_x_totals : Nat → Int32) (f_x_points : Nat → Int32) (f_x_out : Nat → Int32) (v_r_number : Int32) (v_r_number_i : Int) (v_r_number_h : v_r_number.toInt = v_r_number_i) (B_v_r_number : 0 ≤ v_r_number_i ∧ v_r_number_i ≤ 20) (r_teams : Nat) (r_steady : Nat) (r_full : Nat) (r_climb : Nat) (f_r_teams : Nat → Int32) (R_r_teams : zr f_r_teams 20 (0) (4)) : Met l yX7_matesAhead (Cond.code yX7_matesAhead cX7_matesAhead 6 (some .int) :: lw_good) ({ frames := 1, cells := 0, slots := 0, locals := 23 }) (va_Pc [.ref h0, .int pT, .int pR, .ref pRi] (fun U => U.heap.size = sz ∧ va_P (dC, dI) vwCl [(h0, .inr (7, [.int v_x_number, .int v_x_limit, .ref x_totals, .ref x_points, .ref x_out])), (x_totals, .inl (cI, 20, .inl f_x_totals)), (x_points, .inl (cI, 20, .inl f_x_points)), (x_out, .inl (cZ, 20, .inl f_x_out)), (pRi, .inr (5, [.int v_r_number, .ref r_teams, .ref r_steady, .ref r_full, .ref r_climb])), (r_teams, .inl (cI, 20, .inl f_r_teams))] U.heap ∧ va_K (dC, dI) vwCl [(cI, .int), (cZ, .boolean)] U ∧ va_D (fun _ => True) [(h0, .inr (7, [.int v_x_number, .int v_x_limit, .ref x_totals, .ref x_points, .ref x_out])), (x_totals, .inl (cI, 20, .inl f_x_totals)), (x_points, .inl (cI, 20, .inl f_x_points)), (x_out, .inl (cZ, 20, .inl f_x_out)), (pRi, .inr (5, [.int v_r_number, .ref r_teams, .ref r_steady, .ref r_full, .ref r_climb])), (r_teams, .inl (cI, 20, .inl f_r_teams))])) (va_Qi (fun (r u : Int32) => r = u) (fun u t => va_P (dC, dI) vwCl [(h0, .inr (7, [.int v_x_number, .int v_x_limit, .ref x_totals, .ref x_points, .ref x_out])), (x_totals, .inl (cI, 20, .inl f_x_totals)), (x_points, .inl (cI, 20, .inl f_x_points)), (x_out, .inl (cZ, 20, .inl f_x_out)), (pRi, .inr (5, [.int v_r_number, .ref r_teams, .ref r_steady, .ref r_full, .ref r_climb])), (r_teams, .inl (cI, 20, .inl f_r_teams))] t.heap ∧ va_K (dC, dI) vwCl [(cI, .int), (cZ, .boolean)] t ∧ va_D (va_A [(h0, .inr (7, [.int v_x_number, .int v_x_limit, .ref x_totals, .ref x_points, .ref x_out])), (x_totals, .inl (cI, 20, .inl f_x_totals)), (x_points, .inl (cI, 20, .inl f_x_points)), (x_out, .inl (cZ, 20, .inl f_x_out)), (pRi, .inr (5, [.int v_r_number, .ref r_teams, .ref r_steady, .ref r_full, .ref r_climb])), (r_teams, .inl (cI, 20, .inl f_r_teams))] sz) [(h0, .inr (7, [.int v_x_number, .int v_x_limit, .ref x_totals, .ref x_points, .ref x_out])), (x_totals, .inl (cI, 20, .inl f_x_totals)), (x_points, .inl (cI, 20, .inl f_x_points)), (x_out, .inl (cZ, 20, .inl f_x_out)), (pRi, .inr (5, [.int v_r_number, .ref r_teams, .ref r_steady, .ref r_full, .ref r_climb])), (r_teams, .inl (cI, 20, .inl f_r_teams))]) (va_A [(h0, .inr (7, [.int v_x_number, .int v_x_limit, .ref x_totals, .ref x_points, .ref x_out])), (x_totals, .inl (cI, 20, .inl f_x_totals)), (x_points, .inl (cI, 20, .inl f_x_points)), (x_out, .inl (cZ, 20, .inl f_x_out)), (pRi, .inr (5, [.int v_r_number, .ref r_teams, .ref r_steady, .ref r_full, .ref r_climb])), (r_teams, .inl (cI, 20, .inl f_r_teams))] sz)) 0 0 (va_A [(h0, .inr (7, [.int v_x_number, .int v_x_limit, .ref x_totals, .ref x_points, .ref x_out])), (x_totals, .inl (cI, 20, .inl f_x_totals)), (x_points, .inl (cI, 20, .inl f_x_points)), (x_out, .inl (cZ, 20, .inl f_x_out)), (pRi, .inr (5, [.int v_r_number, .ref r_teams, .ref r_steady, .ref r_full, .ref r_climb])), (r_teams, .inl (cI, 20, .inl f_r_teams))] sz) := by
  refine Met.ofW (cc := cX7_matesAhead) (maxL := 6) (ret := (some .int)) (by decide) rfl ?_
  intro p e s m args below meth c s₁ B hml hv
  obtain ⟨rfl, hsz, hP, hK, hD0⟩ := hv
  have hx := B.exec
  have hb := B.bytes
  have hr := B.returns
  have hts := atoms_spec (ws := Cond.code yX7_matesAhead cX7_matesAhead 6 (some .int) :: lw_good) B.pre
  have hown : s.vm.findClass RX7 = some m.cls := findClass_of_methodNamed B.named
  have hlocks := B.notSynchronized
  have hiX5 : ∀ w ∈ wsX50, w ∈ (Cond.code yX7_matesAhead cX7_matesAhead 6 (some .int) :: lw_good) := fun w h => List.mem_cons_of_mem _ (zi_X5 w h)
  have hw0 := hts (.fieldLink RX7 54 "BunchRace$Riders" "number" "I") (List.mem_cons_of_mem _ zw_76)
  have hw1 := hts (.initialized RX7) (List.mem_cons_of_mem _ zw_57)
  have hw2 := hts (.methodLink RX7 57 yX7_countsFor) (List.mem_cons_of_mem _ zw_685)
  have hw3 := hts (.instanceMethod yX7_countsFor) (List.mem_cons_of_mem _ zw_687)
  have hw4 := hts (.selects RX7 yX7_countsFor yX7_countsFor) (List.mem_cons_of_mem _ zw_19)
  have hw5 := hts (.methodLink RX7 50 yX7_standsAhead) (List.mem_cons_of_mem _ zw_673)
  have hw6 := hts (.instanceMethod yX7_standsAhead) (List.mem_cons_of_mem _ zw_675)
  have hw7 := hts (.selects RX7 yX7_standsAhead yX7_standsAhead) (List.mem_cons_of_mem _ zw_18)
  subst hsz
  have hD := hD0.self (sz := s.heap.size)
  generalize hAe : va_A [(h0, .inr (7, [.int v_x_number, .int v_x_limit, .ref x_totals, .ref x_points, .ref x_out])), (x_totals, .inl (cI, 20, .inl f_x_totals)), (x_points, .inl (cI, 20, .inl f_x_points)), (x_out, .inl (cZ, 20, .inl f_x_out)), (pRi, .inr (5, [.int v_r_number, .ref r_teams, .ref r_steady, .ref r_full, .ref r_climb])), (r_teams, .inl (cI, 20, .inl f_r_teams))] s.heap.size = A at hD ⊢
  have hA : ∀ q : Nat, s.heap.size ≤ q → A q := fun q h => by rw [← hAe]; exact Or.inr h
  have hS : va_S A s.heap s.heap [] := va_S.rf
  have hP : va_P (dC, dI) vwCl [(h0, .inr (7, [.int v_x_number, .int v_x_limit, .ref x_totals, .ref x_points, .ref x_out])), (x_totals, .inl (cI, 20, .inl f_x_totals)), (x_points, .inl (cI, 20, .inl f_x_points)), (x_out, .inl (cZ, 20, .inl f_x_out)), (pRi, .inr (5, [.int v_r_number, .ref r_teams, .ref r_steady, .ref r_full, .ref r_climb])), (r_teams, .inl (cI, 20, .inl f_r_teams))] s.heap := hP
  have hl := lv_entry ([.ref h0, .int pT, .int pR, .ref pRi]) (n := 6) (Nat.le_of_ble_eq_true rfl)
  rw [lg_entry_eq]
  generalize (lg_sl ([.ref h0, .int pT, .int pR, .ref pRi]) ++ List.replicate (6 - (lg_sl ([.ref h0, .int pT, .int pR, .ref pRi])).length) Slot.unset).toArray = ls at hl ⊢
  have hl : lv_has ls 6 [(0, .ref h0), (1, .int pT), (2, .int pR), (3, .ref pRi)] := hl
  refine lv_iconst (v := 0) hx hb dX7_matesAhead_0 (by decide) ?_
  refine lv_istore (lv' := [(4, .int 0), (0, .ref h0), (1, .int pT), (2, .int pR), (3, .ref pRi)]) hx hb dX7_matesAhead_1 hl (by decide) rfl (fun ls hl => ?_)
  refine lv_iconst (v := 0) hx hb dX7_matesAhead_3 (by decide) ?_
  refine lv_istore (lv' := [(5, .int 0), (4, .int 0), (0, .ref h0), (1, .int pT), (2, .int pR), (3, .ref pRi)]) hx hb dX7_matesAhead_4 hl (by decide) rfl (fun ls hl => ?_)
  have L_14 : ∀ (n : Nat) (i5_L_14 : Int32) (i4_L_14 : Int32) (H : Heap) (locs : List Loc) (ls : Array Slot), (0 ≤ i5_L_14.toInt) → (i5_L_14.toInt ≤ 20) → (20 - i5_L_14.toInt) < (n : Int) → va_P (dC, dI) vwCl [(h0, .inr (7, [.int v_x_number, .int v_x_limit, .ref x_totals, .ref x_points, .ref x_out])), (x_totals, .inl (cI, 20, .inl f_x_totals)), (x_points, .inl (cI, 20, .inl f_x_points)), (x_out, .inl (cZ, 20, .inl f_x_out)), (pRi, .inr (5, [.int v_r_number, .ref r_teams, .ref r_steady, .ref r_full, .ref r_climb])), (r_teams, .inl (cI, 20, .inl f_r_teams))] H → va_D A [(h0, .inr (7, [.int v_x_number, .int v_x_limit, .ref x_totals, .ref x_points, .ref x_out])), (x_totals, .inl (cI, 20, .inl f_x_totals)), (x_points, .inl (cI, 20, .inl f_x_points)), (x_out, .inl (cZ, 20, .inl f_x_out)), (pRi, .inr (5, [.int v_r_number, .ref r_teams, .ref r_steady, .ref r_full, .ref r_climb])), (r_teams, .inl (cI, 20, .inl f_r_teams))] → va_S A s.heap H locs → lv_has ls 6 [(5, .int i5_L_14), (4, .int i4_L_14), (0, .ref h0), (1, .int pT), (2, .int pR), (3, .ref pRi)] → W p l e ((headSpec (Cond.code yX7_matesAhead cX7_matesAhead 6 (some .int) :: lw_good) ({ frames := 1, cells := 0, slots := 0, locals := 23 })).room) s m (([.ref h0, .int pT, .int pR, .ref pRi] : List Value).toArray) below meth c H locs 0 0 (MQ below (va_Qi (fun (r u : Int32) => r = u) (fun u t => va_P (dC, dI) vwCl [(h0, .inr (7, [.int v_x_number, .int v_x_limit, .ref x_totals, .ref x_points, .ref x_out])), (x_totals, .inl (cI, 20, .inl f_x_totals)), (x_points, .inl (cI, 20, .inl f_x_points)), (x_out, .inl (cZ, 20, .inl f_x_out)), (pRi, .inr (5, [.int v_r_number, .ref r_teams, .ref r_steady, .ref r_full, .ref r_climb])), (r_teams, .inl (cI, 20, .inl f_r_teams))] t.heap ∧ va_K (dC, dI) vwCl [(cI, .int), (cZ, .boolean)] t ∧ va_D A [(h0, .inr (7, [.int v_x_number, .int v_x_limit, .ref x_totals, .ref x_points, .ref x_out])), (x_totals, .inl (cI, 20, .inl f_x_totals)), (x_points, .inl (cI, 20, .inl f_x_points)), (x_out, .inl (cZ, 20, .inl f_x_out)), (pRi, .inr (5, [.int v_r_number, .ref r_teams, .ref r_steady, .ref r_full, .ref r_climb])), (r_teams, .inl (cI, 20, .inl f_r_teams))]) A) (([.ref h0, .int pT, .int pR, .ref pRi] : List Value).toArray) s 0 0 A) (F0 m 6 ls []) := by
    intro n
    induction n with
    | zero =>
      intro i5_L_14 i4_L_14 H locs ls hI0 hI1 hM
      exact absurd hM (by omega)
    | succ n ih =>
      intro i5_L_14 i4_L_14 H locs ls hI0 hI1 hM hP hD hS hl
      have ih_15 := ih
      have hi_16 := hI0
      have hi_17 := hI1
      refine lv_iload hx hb dX7_matesAhead_6 (lv_at hl 0 rfl) ?_
      refine lv_aload_n hx hb dX7_matesAhead_8 rfl (lv_at hl 5 rfl) ?_
      refine va_get (D := (dC, dI)) (ci := 5) (v := .int v_r_number) (C := RX5) (T := TX5) (N := 5) hx hb hts hiX5 hown hK hP 4 rfl rfl 0 (by decide) hw0 (fun _ h9 => h9) rfl dX7_matesAhead_9 ?_
      refine lv_icmp_ge (tgt := 45) hx hb dX7_matesAhead_12 (by decide) (fun c_18 => ?_) (fun c_18 => ?_)
      ·
        have c_18 : v_r_number_i ≤ (i5_L_14).toInt := zz_le v_r_number_h rfl c_18
        refine lv_iload hx hb dX7_matesAhead_45 (lv_at hl 1 rfl) ?_
        have hu9 : (i4_L_14 : Int32).toInt = (i4_L_14).toInt := rfl
        have hP9 := hP.sub (ws' := [(h0, .inr (7, [.int v_x_number, .int v_x_limit, .ref x_totals, .ref x_points, .ref x_out])), (x_totals, .inl (cI, 20, .inl f_x_totals)), (x_points, .inl (cI, 20, .inl f_x_points)), (x_out, .inl (cZ, 20, .inl f_x_out)), (pRi, .inr (5, [.int v_r_number, .ref r_teams, .ref r_steady, .ref r_full, .ref r_climb])), (r_teams, .inl (cI, 20, .inl f_r_teams))]) [0, 1, 2, 3, 4, 5] rfl
        have hD9 := hD.sub (ws' := [(h0, .inr (7, [.int v_x_number, .int v_x_limit, .ref x_totals, .ref x_points, .ref x_out])), (x_totals, .inl (cI, 20, .inl f_x_totals)), (x_points, .inl (cI, 20, .inl f_x_points)), (x_out, .inl (cZ, 20, .inl f_x_out)), (pRi, .inr (5, [.int v_r_number, .ref r_teams, .ref r_steady, .ref r_full, .ref r_climb])), (r_teams, .inl (cI, 20, .inl f_r_teams))]) [0, 1, 2, 3, 4, 5] (by decide) rfl
        exact W.iret (v := i4_L_14) hx hb hr (fun t ht hW => ⟨⟨i4_L_14, i4_L_14, rfl, rfl, by rw [ht]; exact hP9, va_K.moved hW.alike hK, hD9⟩, hS.F ht⟩) hS.2.2 dX7_matesAhead_47
      ·
        have c_18 : ¬ (v_r_number_i ≤ (i5_L_14).toInt) := zz_len v_r_number_h rfl c_18
        refine lv_aload_n hx hb dX7_matesAhead_15 rfl (lv_at hl 2 rfl) ?_
        refine lv_iload_n hx hb dX7_matesAhead_16 rfl (lv_at hl 3 rfl) ?_
        refine lv_iload hx hb dX7_matesAhead_17 (lv_at hl 0 rfl) ?_
        refine lv_aload_n hx hb dX7_matesAhead_19 rfl (lv_at hl 5 rfl) ?_
        have hPc := hP.sub (ws' := [(h0, .inr (7, [.int v_x_number, .int v_x_limit, .ref x_totals, .ref x_points, .ref x_out])), (x_out, .inl (cZ, 20, .inl f_x_out)), (pRi, .inr (5, [.int v_r_number, .ref r_teams, .ref r_steady, .ref r_full, .ref r_climb])), (r_teams, .inl (cI, 20, .inl f_r_teams))]) [0, 3, 4, 5] rfl
        have hDc := hD.sub (ws' := [(h0, .inr (7, [.int v_x_number, .int v_x_limit, .ref x_totals, .ref x_points, .ref x_out])), (x_out, .inl (cZ, 20, .inl f_x_out)), (pRi, .inr (5, [.int v_r_number, .ref r_teams, .ref r_steady, .ref r_full, .ref r_climb])), (r_teams, .inl (cI, 20, .inl f_r_teams))]) [0, 3, 4, 5] (by decide) rfl
        have hFc := va_free (wc := [(h0, .inr (7, [.int v_x_number, .int v_x_limit, .ref x_totals, .ref x_points, .ref x_out])), (x_out, .inl (cZ, 20, .inl f_x_out)), (pRi, .inr (5, [.int v_r_number, .ref r_teams, .ref r_steady, .ref r_full, .ref r_climb])), (r_teams, .inl (cI, 20, .inl f_r_teams))]) hD hS hA [0, 3, 4, 5] rfl
        refine va_calli (va_runV (As := [.int pT, .int i5_L_14, .ref pRi]) (rest := []) ⟨hx, hb, hml, hown, hts⟩ (c_X7_countsFor l dC dI cI cZ (H).size h0 pT pT_i pT_h i5_L_14 ((i5_L_14).toInt) rfl (by omega) pRi v_x_number v_x_number_i v_x_number_h (by omega) v_x_limit v_x_limit_i v_x_limit_h x_totals x_points x_out f_x_out v_r_number v_r_number_i v_r_number_h (by omega) r_teams r_steady r_full r_climb f_r_teams R_r_teams) ⟨callB_of 3 hts (zz_good zw_688) rfl rfl rfl hw1 hw2 (by decide +kernel) ⟨Nat.le_of_ble_eq_true rfl, Nat.le_of_ble_eq_true rfl⟩, hw3, hw4⟩ ⟨fun a U g mk q => by obtain ⟨q0, q1, qP, qK, qD⟩ := q; exact ⟨q0, q1, qP, va_K.moved (u := U) (U := U.calling g mk a) (Vm.Alike.refl U.vm) qK, qD⟩, va_recv hK hPc (ci := 7) (q0 := 0) rfl rfl, fun U hU hW => ⟨rfl, by rw [hU], by rw [hU]; exact hPc, va_K.moved hW.alike hK, hDc.weaken (fun _ _ _ _ => trivial)⟩⟩ rfl rfl hl.1 rfl (lv_room (Nat.le_of_ble_eq_true rfl)) dX7_matesAhead_20 ⟨Nat.le_of_ble_eq_true rfl, Nat.le_of_ble_eq_true rfl⟩) hS (fun q _ h => hFc q h) hFc (fun r_19 u t H1 locs ht hvm hpost hB hz1 hk1 hS => ?_)
        subst hpost
        obtain ⟨hf_20, hP1, hK1, hD1⟩ := hB
        rw [ht] at hP1
        obtain ⟨hP, hD⟩ := va_join (wr := [(x_totals, .inl (cI, 20, .inl f_x_totals)), (x_points, .inl (cI, 20, .inl f_x_points))]) (w1 := [(h0, .inr (7, [.int v_x_number, .int v_x_limit, .ref x_totals, .ref x_points, .ref x_out])), (x_out, .inl (cZ, 20, .inl f_x_out)), (pRi, .inr (5, [.int v_r_number, .ref r_teams, .ref r_steady, .ref r_full, .ref r_climb])), (r_teams, .inl (cI, 20, .inl f_r_teams))]) hP hD [0, 3, 4, 5] [1, 2] rfl rfl (by decide) (by decide) hk1 hFc hP1 hD1
        generalize H1 = H at hP hS ⊢
        have hP : va_P (dC, dI) vwCl [(x_totals, .inl (cI, 20, .inl f_x_totals)), (x_points, .inl (cI, 20, .inl f_x_points)), (h0, .inr (7, [.int v_x_number, .int v_x_limit, .ref x_totals, .ref x_points, .ref x_out])), (x_out, .inl (cZ, 20, .inl f_x_out)), (pRi, .inr (5, [.int v_r_number, .ref r_teams, .ref r_steady, .ref r_full, .ref r_climb])), (r_teams, .inl (cI, 20, .inl f_r_teams))] H := hP
        have hD : va_D A [(x_totals, .inl (cI, 20, .inl f_x_totals)), (x_points, .inl (cI, 20, .inl f_x_points)), (h0, .inr (7, [.int v_x_number, .int v_x_limit, .ref x_totals, .ref x_points, .ref x_out])), (x_out, .inl (cZ, 20, .inl f_x_out)), (pRi, .inr (5, [.int v_r_number, .ref r_teams, .ref r_steady, .ref r_full, .ref r_climb])), (r_teams, .inl (cI, 20, .inl f_r_teams))] := hD
        have hf_20 : 0 ≤ r_19.toInt ∧ r_19.toInt ≤ 1 := hf_20
        refine lv_if_eq (tgt := 39) hx hb dX7_matesAhead_23 (by decide) (fun c_21 => ?_) (fun c_21 => ?_)
        ·
          have c_21 : (r_19).toInt = (0:Int) := zz_eq rfl (by decide) c_21
          obtain ⟨v_22, ev_22⟩ : ∃ y : Int32, y = i5_L_14 + 1 := ⟨_, rfl⟩
          have hv_22 : v_22.toInt = ((i5_L_14).toInt + (1:Int)) := by rw [ev_22]; exact zz_addI rfl (by decide) (by omega) (by omega)
          refine lv_iinc (v := v_22) (lv' := [(5, .int v_22), (4, .int i4_L_14), (0, .ref h0), (1, .int pT), (2, .int pR), (3, .ref pRi)]) hx hb dX7_matesAhead_39 hl (k := 0) rfl (by rw [ev_22]; rfl) (by decide) rfl (fun ls hl => ?_)
          refine lv_goto (tgt := 6) hx hb dX7_matesAhead_42 (by decide) ?_
          have hb_23_i5_L_14 : (v_22 : Int32).toInt = ((i5_L_14).toInt + (1:Int)) := hv_22
          have hb_23_i4_L_14 : (i4_L_14 : Int32).toInt = (i4_L_14).toInt := rfl
          exact ih_15 v_22 i4_L_14 H locs ls (by omega) (by omega) (by omega) (hP.sub [2, 0, 1, 3, 4, 5] rfl) (hD.sub [2, 0, 1, 3, 4, 5] (by decide) rfl) hS (lv_sub hl [0, 1, 2, 3, 4, 5] rfl)
        ·
          have c_21 : ¬ ((r_19).toInt = (0:Int)) := zz_eqn rfl (by decide) c_21
          refine lv_aload_n hx hb dX7_matesAhead_26 rfl (lv_at hl 2 rfl) ?_
          refine lv_iload hx hb dX7_matesAhead_27 (lv_at hl 0 rfl) ?_
          refine lv_iload_n hx hb dX7_matesAhead_29 rfl (lv_at hl 4 rfl) ?_
          have hPc := hP.sub (ws' := [(h0, .inr (7, [.int v_x_number, .int v_x_limit, .ref x_totals, .ref x_points, .ref x_out])), (x_totals, .inl (cI, 20, .inl f_x_totals)), (x_points, .inl (cI, 20, .inl f_x_points))]) [2, 0, 1] rfl
          have hDc := hD.sub (ws' := [(h0, .inr (7, [.int v_x_number, .int v_x_limit, .ref x_totals, .ref x_points, .ref x_out])), (x_totals, .inl (cI, 20, .inl f_x_totals)), (x_points, .inl (cI, 20, .inl f_x_points))]) [2, 0, 1] (by decide) rfl
          have hFc := va_free (wc := [(h0, .inr (7, [.int v_x_number, .int v_x_limit, .ref x_totals, .ref x_points, .ref x_out])), (x_totals, .inl (cI, 20, .inl f_x_totals)), (x_points, .inl (cI, 20, .inl f_x_points))]) hD hS hA [2, 0, 1] rfl
          refine va_calli (va_runV (As := [.int i5_L_14, .int pR]) (rest := []) ⟨hx, hb, hml, hown, hts⟩ (c_X7_standsAhead l dC dI cI cZ (H).size h0 i5_L_14 ((i5_L_14).toInt) rfl (by omega) pR pR_i pR_h (by omega) v_x_number v_x_number_i v_x_number_h (by omega) v_x_limit v_x_limit_i v_x_limit_h x_totals x_points x_out f_x_totals f_x_points) ⟨callB_of 2 hts (zz_good zw_676) rfl rfl rfl hw1 hw5 (by decide +kernel) ⟨Nat.le_of_ble_eq_true rfl, Nat.le_of_ble_eq_true rfl⟩, hw6, hw7⟩ ⟨fun a U g mk q => by obtain ⟨q0, q1, qP, qK, qD⟩ := q; exact ⟨q0, q1, qP, va_K.moved (u := U) (U := U.calling g mk a) (Vm.Alike.refl U.vm) qK, qD⟩, va_recv hK hPc (ci := 7) (q0 := 0) rfl rfl, fun U hU hW => ⟨rfl, by rw [hU], by rw [hU]; exact hPc, va_K.moved hW.alike hK, hDc.weaken (fun _ _ _ _ => trivial)⟩⟩ rfl rfl hl.1 rfl (lv_room (Nat.le_of_ble_eq_true rfl)) dX7_matesAhead_30 ⟨Nat.le_of_ble_eq_true rfl, Nat.le_of_ble_eq_true rfl⟩) hS (fun q _ h => hFc q h) hFc (fun r_24 u t H1 locs ht hvm hpost hB hz1 hk1 hS => ?_)
          subst hpost
          obtain ⟨hf_25, hP1, hK1, hD1⟩ := hB
          rw [ht] at hP1
          obtain ⟨hP, hD⟩ := va_join (wr := [(x_out, .inl (cZ, 20, .inl f_x_out)), (pRi, .inr (5, [.int v_r_number, .ref r_teams, .ref r_steady, .ref r_full, .ref r_climb])), (r_teams, .inl (cI, 20, .inl f_r_teams))]) (w1 := [(h0, .inr (7, [.int v_x_number, .int v_x_limit, .ref x_totals, .ref x_points, .ref x_out])), (x_totals, .inl (cI, 20, .inl f_x_totals)), (x_points, .inl (cI, 20, .inl f_x_points))]) hP hD [2, 0, 1] [3, 4, 5] rfl rfl (by decide) (by decide) hk1 hFc hP1 hD1
          generalize H1 = H at hP hS ⊢
          have hP : va_P (dC, dI) vwCl [(x_out, .inl (cZ, 20, .inl f_x_out)), (pRi, .inr (5, [.int v_r_number, .ref r_teams, .ref r_steady, .ref r_full, .ref r_climb])), (r_teams, .inl (cI, 20, .inl f_r_teams)), (h0, .inr (7, [.int v_x_number, .int v_x_limit, .ref x_totals, .ref x_points, .ref x_out])), (x_totals, .inl (cI, 20, .inl f_x_totals)), (x_points, .inl (cI, 20, .inl f_x_points))] H := hP
          have hD : va_D A [(x_out, .inl (cZ, 20, .inl f_x_out)), (pRi, .inr (5, [.int v_r_number, .ref r_teams, .ref r_steady, .ref r_full, .ref r_climb])), (r_teams, .inl (cI, 20, .inl f_r_teams)), (h0, .inr (7, [.int v_x_number, .int v_x_limit, .ref x_totals, .ref x_points, .ref x_out])), (x_totals, .inl (cI, 20, .inl f_x_totals)), (x_points, .inl (cI, 20, .inl f_x_points))] := hD
          have hf_25 : 0 ≤ r_24.toInt ∧ r_24.toInt ≤ 1 := hf_25
          refine lv_if_eq (tgt := 39) hx hb dX7_matesAhead_33 (by decide) (fun c_26 => ?_) (fun c_26 => ?_)
          ·
            have c_26 : (r_24).toInt = (0:Int) := zz_eq rfl (by decide) c_26
            obtain ⟨v_27, ev_27⟩ : ∃ y : Int32, y = i5_L_14 + 1 := ⟨_, rfl⟩
            have hv_27 : v_27.toInt = ((i5_L_14).toInt + (1:Int)) := by rw [ev_27]; exact zz_addI rfl (by decide) (by omega) (by omega)
            refine lv_iinc (v := v_27) (lv' := [(5, .int v_27), (4, .int i4_L_14), (0, .ref h0), (1, .int pT), (2, .int pR), (3, .ref pRi)]) hx hb dX7_matesAhead_39 hl (k := 0) rfl (by rw [ev_27]; rfl) (by decide) rfl (fun ls hl => ?_)
            refine lv_goto (tgt := 6) hx hb dX7_matesAhead_42 (by decide) ?_
            have hb_28_i5_L_14 : (v_27 : Int32).toInt = ((i5_L_14).toInt + (1:Int)) := hv_27
            have hb_28_i4_L_14 : (i4_L_14 : Int32).toInt = (i4_L_14).toInt := rfl
            exact ih_15 v_27 i4_L_14 H locs ls (by omega) (by omega) (by omega) (hP.sub [3, 4, 5, 0, 1, 2] rfl) (hD.sub [3, 4, 5, 0, 1, 2] (by decide) rfl) hS (lv_sub hl [0, 1, 2, 3, 4, 5] rfl)
          ·
            have c_26 : ¬ ((r_24).toInt = (0:Int)) := zz_eqn rfl (by decide) c_26
            obtain ⟨v_29, ev_29⟩ : ∃ y : Int32, y = i4_L_14 + 1 := ⟨_, rfl⟩
            refine lv_iinc (v := v_29) (lv' := [(4, .int v_29), (5, .int i5_L_14), (0, .ref h0), (1, .int pT), (2, .int pR), (3, .ref pRi)]) hx hb dX7_matesAhead_36 hl (k := 1) rfl (by rw [ev_29]; rfl) (by decide) rfl (fun ls hl => ?_)
            obtain ⟨v_30, ev_30⟩ : ∃ y : Int32, y = i5_L_14 + 1 := ⟨_, rfl⟩
            have hv_30 : v_30.toInt = ((i5_L_14).toInt + (1:Int)) := by rw [ev_30]; exact zz_addI rfl (by decide) (by omega) (by omega)
            refine lv_iinc (v := v_30) (lv' := [(5, .int v_30), (4, .int v_29), (0, .ref h0), (1, .int pT), (2, .int pR), (3, .ref pRi)]) hx hb dX7_matesAhead_39 hl (k := 1) rfl (by rw [ev_30]; rfl) (by decide) rfl (fun ls hl => ?_)
            refine lv_goto (tgt := 6) hx hb dX7_matesAhead_42 (by decide) ?_
            have hb_31_i5_L_14 : (v_30 : Int32).toInt = ((i5_L_14).toInt + (1:Int)) := hv_30
            have hb_31_i4_L_14 : (v_29 : Int32).toInt = (v_29).toInt := rfl
            exact ih_15 v_30 v_29 H locs ls (by omega) (by omega) (by omega) (hP.sub [3, 4, 5, 0, 1, 2] rfl) (hD.sub [3, 4, 5, 0, 1, 2] (by decide) rfl) hS (lv_sub hl [0, 1, 2, 3, 4, 5] rfl)
  have hb_32_i5_L_14 : (0 : Int32).toInt = (0:Int) := (by decide)
  have hb_32_i4_L_14 : (0 : Int32).toInt = (0:Int) := (by decide)
  exact L_14 1000 0 0 s.heap [] ls (by omega) (by omega) (by omega) (hP.sub [0, 1, 2, 3, 4, 5] rfl) (hD.sub [0, 1, 2, 3, 4, 5] (by decide) rfl) hS (lv_sub hl [0, 1, 2, 3, 4, 5] rfl)

set_option maxHeartbeats 8000000 in
set_option maxRecDepth 100000 in
theorem c_X7_lowestThreeOf (l : Launch) (dC : Nat → ClassId) (dI : Nat → Nat → Nat) (cI cZ : ClassId) (sz : Nat) (h0 : Nat) (pT : Int32) (pT_i : Int) (pT_h : pT.toInt = pT_i) (pRi : Nat) (v_x_number : Int32) (v_x_number_i : Int) (v_x_number_h : v_x_number.toInt = v_x_number_i) (B_v_x_number : 0 ≤ v_x_number_i ∧ v_x_number_i ≤ 20) (v_x_limit : Int32) (v_x_limit_i : Int) (v_x_limit_h : v_x_limit.toInt = v_x_limit_i) (x_totals : Nat) (x_points : Nat) (x_out : Nat) (f_x_totals : Nat → Int32) (f_x_points : Nat → Int32) (f_x_out : Nat → Int32) (v_r_number : Int32) (v_r_number_i : Int) (v_r_number_h : v_r_number.toInt = v_r_number_i) (B_v_r_number : 0 ≤ v_r_number_i ∧ v_r_number_i ≤ 20) (r_teams : Nat) (r_steady : Nat) (r_full : Nat) (r_climb : Nat) (f_r_teams : Nat → Int32) (R_r_teams : zr f_r_teams 20 (0) (4)) : Met l yX7_lowestThreeOf (Cond.code yX7_lowestThreeOf cX7_lowestThreeOf 6 (some .int) :: lw_good) ({ frames := 2, cells := 0, slots := 0, locals := 48 }) (va_Pc [.ref h0, .int pT, .ref pRi] (fun U => U.heap.size = sz ∧ va_P (dC, dI) vwCl [(h0, .inr (7, [.int v_x_number, .int v_x_limit, .ref x_totals, .ref x_points, .ref x_out])), (x_totals, .inl (cI, 20, .inl f_x_totals)), (x_points, .inl (cI, 20, .inl f_x_points)), (x_out, .inl (cZ, 20, .inl f_x_out)), (pRi, .inr (5, [.int v_r_number, .ref r_teams, .ref r_steady, .ref r_full, .ref r_climb])), (r_teams, .inl (cI, 20, .inl f_r_teams))] U.heap ∧ va_K (dC, dI) vwCl [(cI, .int), (cZ, .boolean)] U ∧ va_D (fun _ => True) [(h0, .inr (7, [.int v_x_number, .int v_x_limit, .ref x_totals, .ref x_points, .ref x_out])), (x_totals, .inl (cI, 20, .inl f_x_totals)), (x_points, .inl (cI, 20, .inl f_x_points)), (x_out, .inl (cZ, 20, .inl f_x_out)), (pRi, .inr (5, [.int v_r_number, .ref r_teams, .ref r_steady, .ref r_full, .ref r_climb])), (r_teams, .inl (cI, 20, .inl f_r_teams))])) (va_Qi (fun (r u : Int32) => r = u) (fun u t => va_P (dC, dI) vwCl [(h0, .inr (7, [.int v_x_number, .int v_x_limit, .ref x_totals, .ref x_points, .ref x_out])), (x_totals, .inl (cI, 20, .inl f_x_totals)), (x_points, .inl (cI, 20, .inl f_x_points)), (x_out, .inl (cZ, 20, .inl f_x_out)), (pRi, .inr (5, [.int v_r_number, .ref r_teams, .ref r_steady, .ref r_full, .ref r_climb])), (r_teams, .inl (cI, 20, .inl f_r_teams))] t.heap ∧ va_K (dC, dI) vwCl [(cI, .int), (cZ, .boolean)] t ∧ va_D (va_A [(h0, .inr (7, [.int v_x_number, .int v_x_limit, .ref x_totals, .ref x_points, .ref x_out])), (x_totals, .inl (cI, 20, .inl f_x_totals)), (x_points, .inl (cI, 20, .inl f_x_points)), (x_out, .inl (cZ, 20, .inl f_x_out)), (pRi, .inr (5, [.int v_r_number, .ref r_teams, .ref r_steady, .ref r_full, .ref r_climb])), (r_teams, .inl (cI, 20, .inl f_r_teams))] sz) [(h0, .inr (7, [.int v_x_number, .int v_x_limit, .ref x_totals, .ref x_points, .ref x_out])), (x_totals, .inl (cI, 20, .inl f_x_totals)), (x_points, .inl (cI, 20, .inl f_x_points)), (x_out, .inl (cZ, 20, .inl f_x_out)), (pRi, .inr (5, [.int v_r_number, .ref r_teams, .ref r_steady, .ref r_full, .ref r_climb])), (r_teams, .inl (cI, 20, .inl f_r_teams))]) (va_A [(h0, .inr (7, [.int v_x_number, .int v_x_limit, .ref x_totals, .ref x_points, .ref x_out])), (x_totals, .inl (cI, 20, .inl f_x_totals)), (x_points, .inl (cI, 20, .inl f_x_points)), (x_out, .inl (cZ, 20, .inl f_x_out)), (pRi, .inr (5, [.int v_r_number, .ref r_teams, .ref r_steady, .ref r_full, .ref r_climb])), (r_teams, .inl (cI, 20, .inl f_r_teams))] sz)) 0 0 (va_A [(h0, .inr (7, [.int v_x_number, .int v_x_limit, .ref x_totals, .ref x_points, .ref x_out])), (x_totals, .inl (cI, 20, .inl f_x_totals)), (x_points, .inl (cI, 20, .inl f_x_points)), (x_out, .inl (cZ, 20, .inl f_x_out)), (pRi, .inr (5, [.int v_r_number, .ref r_teams, .ref r_steady, .ref r_full, .ref r_climb])), (r_teams, .inl (cI, 20, .inl f_r_teams))] sz) := by
  refine Met.ofW (cc := cX7_lowestThreeOf) (maxL := 6) (ret := (some .int)) (by decide) rfl ?_
  intro p e s m args below meth c s₁ B hml hv
  obtain ⟨rfl, hsz, hP, hK, hD0⟩ := hv
  have hx := B.exec
  have hb := B.bytes
  have hr := B.returns
  have hts := atoms_spec (ws := Cond.code yX7_lowestThreeOf cX7_lowestThreeOf 6 (some .int) :: lw_good) B.pre
  have hown : s.vm.findClass RX7 = some m.cls := findClass_of_methodNamed B.named
  have hlocks := B.notSynchronized
  have hiX5 : ∀ w ∈ wsX50, w ∈ (Cond.code yX7_lowestThreeOf cX7_lowestThreeOf 6 (some .int) :: lw_good) := fun w h => List.mem_cons_of_mem _ (zi_X5 w h)
  have hiX7 : ∀ w ∈ wsX70, w ∈ (Cond.code yX7_lowestThreeOf cX7_lowestThreeOf 6 (some .int) :: lw_good) := fun w h => List.mem_cons_of_mem _ (zi_X7 w h)
  have hw0 := hts (.fieldLink RX7 54 "BunchRace$Riders" "number" "I") (List.mem_cons_of_mem _ zw_76)
  have hw1 := hts (.initialized RX7) (List.mem_cons_of_mem _ zw_57)
  have hw2 := hts (.methodLink RX7 57 yX7_countsFor) (List.mem_cons_of_mem _ zw_685)
  have hw3 := hts (.instanceMethod yX7_countsFor) (List.mem_cons_of_mem _ zw_687)
  have hw4 := hts (.selects RX7 yX7_countsFor yX7_countsFor) (List.mem_cons_of_mem _ zw_19)
  have hw5 := hts (.methodLink RX7 61 yX7_matesAhead) (List.mem_cons_of_mem _ zw_689)
  have hw6 := hts (.instanceMethod yX7_matesAhead) (List.mem_cons_of_mem _ zw_691)
  have hw7 := hts (.selects RX7 yX7_matesAhead yX7_matesAhead) (List.mem_cons_of_mem _ zw_20)
  have hw8 := hts (.fieldLink RX7 18 "BunchRace$Stages" "totals" "[I") (List.mem_cons_of_mem _ zw_317)
  subst hsz
  have hD := hD0.self (sz := s.heap.size)
  generalize hAe : va_A [(h0, .inr (7, [.int v_x_number, .int v_x_limit, .ref x_totals, .ref x_points, .ref x_out])), (x_totals, .inl (cI, 20, .inl f_x_totals)), (x_points, .inl (cI, 20, .inl f_x_points)), (x_out, .inl (cZ, 20, .inl f_x_out)), (pRi, .inr (5, [.int v_r_number, .ref r_teams, .ref r_steady, .ref r_full, .ref r_climb])), (r_teams, .inl (cI, 20, .inl f_r_teams))] s.heap.size = A at hD ⊢
  have hA : ∀ q : Nat, s.heap.size ≤ q → A q := fun q h => by rw [← hAe]; exact Or.inr h
  have hS : va_S A s.heap s.heap [] := va_S.rf
  have hP : va_P (dC, dI) vwCl [(h0, .inr (7, [.int v_x_number, .int v_x_limit, .ref x_totals, .ref x_points, .ref x_out])), (x_totals, .inl (cI, 20, .inl f_x_totals)), (x_points, .inl (cI, 20, .inl f_x_points)), (x_out, .inl (cZ, 20, .inl f_x_out)), (pRi, .inr (5, [.int v_r_number, .ref r_teams, .ref r_steady, .ref r_full, .ref r_climb])), (r_teams, .inl (cI, 20, .inl f_r_teams))] s.heap := hP
  have hl := lv_entry ([.ref h0, .int pT, .ref pRi]) (n := 6) (Nat.le_of_ble_eq_true rfl)
  rw [lg_entry_eq]
  generalize (lg_sl ([.ref h0, .int pT, .ref pRi]) ++ List.replicate (6 - (lg_sl ([.ref h0, .int pT, .ref pRi])).length) Slot.unset).toArray = ls at hl ⊢
  have hl : lv_has ls 6 [(0, .ref h0), (1, .int pT), (2, .ref pRi)] := hl
  refine lv_iconst (v := 0) hx hb dX7_lowestThreeOf_0 (by decide) ?_
  refine lv_istore_n (lv' := [(3, .int 0), (0, .ref h0), (1, .int pT), (2, .ref pRi)]) hx hb dX7_lowestThreeOf_1 rfl hl (by decide) rfl (fun ls hl => ?_)
  refine lv_iconst (v := 0) hx hb dX7_lowestThreeOf_2 (by decide) ?_
  refine lv_istore (lv' := [(4, .int 0), (3, .int 0), (0, .ref h0), (1, .int pT), (2, .ref pRi)]) hx hb dX7_lowestThreeOf_3 hl (by decide) rfl (fun ls hl => ?_)
  refine lv_iconst (v := 0) hx hb dX7_lowestThreeOf_5 (by decide) ?_
  refine lv_istore (lv' := [(5, .int 0), (4, .int 0), (3, .int 0), (0, .ref h0), (1, .int pT), (2, .ref pRi)]) hx hb dX7_lowestThreeOf_6 hl (by decide) rfl (fun ls hl => ?_)
  have L_17 : ∀ (n : Nat) (i5_L_17 : Int32) (i4_L_17 : Int32) (i3_L_17 : Int32) (H : Heap) (locs : List Loc) (ls : Array Slot), (0 ≤ i5_L_17.toInt) → (i5_L_17.toInt ≤ 20) → (20 - i5_L_17.toInt) < (n : Int) → va_P (dC, dI) vwCl [(h0, .inr (7, [.int v_x_number, .int v_x_limit, .ref x_totals, .ref x_points, .ref x_out])), (x_totals, .inl (cI, 20, .inl f_x_totals)), (x_points, .inl (cI, 20, .inl f_x_points)), (x_out, .inl (cZ, 20, .inl f_x_out)), (pRi, .inr (5, [.int v_r_number, .ref r_teams, .ref r_steady, .ref r_full, .ref r_climb])), (r_teams, .inl (cI, 20, .inl f_r_teams))] H → va_D A [(h0, .inr (7, [.int v_x_number, .int v_x_limit, .ref x_totals, .ref x_points, .ref x_out])), (x_totals, .inl (cI, 20, .inl f_x_totals)), (x_points, .inl (cI, 20, .inl f_x_points)), (x_out, .inl (cZ, 20, .inl f_x_out)), (pRi, .inr (5, [.int v_r_number, .ref r_teams, .ref r_steady, .ref r_full, .ref r_climb])), (r_teams, .inl (cI, 20, .inl f_r_teams))] → va_S A s.heap H locs → lv_has ls 6 [(5, .int i5_L_17), (4, .int i4_L_17), (3, .int i3_L_17), (0, .ref h0), (1, .int pT), (2, .ref pRi)] → W p l e ((headSpec (Cond.code yX7_lowestThreeOf cX7_lowestThreeOf 6 (some .int) :: lw_good) ({ frames := 2, cells := 0, slots := 0, locals := 48 })).room) s m (([.ref h0, .int pT, .ref pRi] : List Value).toArray) below meth c H locs 0 0 (MQ below (va_Qi (fun (r u : Int32) => r = u) (fun u t => va_P (dC, dI) vwCl [(h0, .inr (7, [.int v_x_number, .int v_x_limit, .ref x_totals, .ref x_points, .ref x_out])), (x_totals, .inl (cI, 20, .inl f_x_totals)), (x_points, .inl (cI, 20, .inl f_x_points)), (x_out, .inl (cZ, 20, .inl f_x_out)), (pRi, .inr (5, [.int v_r_number, .ref r_teams, .ref r_steady, .ref r_full, .ref r_climb])), (r_teams, .inl (cI, 20, .inl f_r_teams))] t.heap ∧ va_K (dC, dI) vwCl [(cI, .int), (cZ, .boolean)] t ∧ va_D A [(h0, .inr (7, [.int v_x_number, .int v_x_limit, .ref x_totals, .ref x_points, .ref x_out])), (x_totals, .inl (cI, 20, .inl f_x_totals)), (x_points, .inl (cI, 20, .inl f_x_points)), (x_out, .inl (cZ, 20, .inl f_x_out)), (pRi, .inr (5, [.int v_r_number, .ref r_teams, .ref r_steady, .ref r_full, .ref r_climb])), (r_teams, .inl (cI, 20, .inl f_r_teams))]) A) (([.ref h0, .int pT, .ref pRi] : List Value).toArray) s 0 0 A) (F0 m 8 ls []) := by
    intro n
    induction n with
    | zero =>
      intro i5_L_17 i4_L_17 i3_L_17 H locs ls hI0 hI1 hM
      exact absurd hM (by omega)
    | succ n ih =>
      intro i5_L_17 i4_L_17 i3_L_17 H locs ls hI0 hI1 hM hP hD hS hl
      have ih_18 := ih
      have hi_19 := hI0
      have hi_20 := hI1
      refine lv_iload hx hb dX7_lowestThreeOf_8 (lv_at hl 0 rfl) ?_
      refine lv_aload_n hx hb dX7_lowestThreeOf_10 rfl (lv_at hl 5 rfl) ?_
      refine va_get (D := (dC, dI)) (ci := 5) (v := .int v_r_number) (C := RX5) (T := TX5) (N := 5) hx hb hts hiX5 hown hK hP 4 rfl rfl 0 (by decide) hw0 (fun _ h9 => h9) rfl dX7_lowestThreeOf_11 ?_
      refine lv_icmp_ge (tgt := 61) hx hb dX7_lowestThreeOf_14 (by decide) (fun c_21 => ?_) (fun c_21 => ?_)
      ·
        have c_21 : v_r_number_i ≤ (i5_L_17).toInt := zz_le v_r_number_h rfl c_21
        refine lv_iload_n hx hb dX7_lowestThreeOf_61 rfl (lv_at hl 2 rfl) ?_
        refine lv_iconst (v := 3) hx hb dX7_lowestThreeOf_62 (by decide) ?_
        refine lv_icmp_ge (tgt := 70) hx hb dX7_lowestThreeOf_63 (by decide) (fun c_22 => ?_) (fun c_22 => ?_)
        ·
          have c_22 : (3:Int) ≤ (i3_L_17).toInt := zz_le (by decide) rfl c_22
          refine lv_iload hx hb dX7_lowestThreeOf_70 (lv_at hl 1 rfl) ?_
          have hu9 : (i4_L_17 : Int32).toInt = (i4_L_17).toInt := rfl
          have hP9 := hP.sub (ws' := [(h0, .inr (7, [.int v_x_number, .int v_x_limit, .ref x_totals, .ref x_points, .ref x_out])), (x_totals, .inl (cI, 20, .inl f_x_totals)), (x_points, .inl (cI, 20, .inl f_x_points)), (x_out, .inl (cZ, 20, .inl f_x_out)), (pRi, .inr (5, [.int v_r_number, .ref r_teams, .ref r_steady, .ref r_full, .ref r_climb])), (r_teams, .inl (cI, 20, .inl f_r_teams))]) [0, 1, 2, 3, 4, 5] rfl
          have hD9 := hD.sub (ws' := [(h0, .inr (7, [.int v_x_number, .int v_x_limit, .ref x_totals, .ref x_points, .ref x_out])), (x_totals, .inl (cI, 20, .inl f_x_totals)), (x_points, .inl (cI, 20, .inl f_x_points)), (x_out, .inl (cZ, 20, .inl f_x_out)), (pRi, .inr (5, [.int v_r_number, .ref r_teams, .ref r_steady, .ref r_full, .ref r_climb])), (r_teams, .inl (cI, 20, .inl f_r_teams))]) [0, 1, 2, 3, 4, 5] (by decide) rfl
          exact W.iret (v := i4_L_17) hx hb hr (fun t ht hW => ⟨⟨i4_L_17, i4_L_17, rfl, rfl, by rw [ht]; exact hP9, va_K.moved hW.alike hK, hD9⟩, hS.F ht⟩) hS.2.2 dX7_lowestThreeOf_72
        ·
          have c_22 : ¬ ((3:Int) ≤ (i3_L_17).toInt) := zz_len (by decide) rfl c_22
          refine lv_iconst (v := (-1)) hx hb dX7_lowestThreeOf_66 (by decide) ?_
          refine lv_goto (tgt := 72) hx hb dX7_lowestThreeOf_67 (by decide) ?_
          have hu9 : ((-1) : Int32).toInt = (-1:Int) := (by decide)
          have hP9 := hP.sub (ws' := [(h0, .inr (7, [.int v_x_number, .int v_x_limit, .ref x_totals, .ref x_points, .ref x_out])), (x_totals, .inl (cI, 20, .inl f_x_totals)), (x_points, .inl (cI, 20, .inl f_x_points)), (x_out, .inl (cZ, 20, .inl f_x_out)), (pRi, .inr (5, [.int v_r_number, .ref r_teams, .ref r_steady, .ref r_full, .ref r_climb])), (r_teams, .inl (cI, 20, .inl f_r_teams))]) [0, 1, 2, 3, 4, 5] rfl
          have hD9 := hD.sub (ws' := [(h0, .inr (7, [.int v_x_number, .int v_x_limit, .ref x_totals, .ref x_points, .ref x_out])), (x_totals, .inl (cI, 20, .inl f_x_totals)), (x_points, .inl (cI, 20, .inl f_x_points)), (x_out, .inl (cZ, 20, .inl f_x_out)), (pRi, .inr (5, [.int v_r_number, .ref r_teams, .ref r_steady, .ref r_full, .ref r_climb])), (r_teams, .inl (cI, 20, .inl f_r_teams))]) [0, 1, 2, 3, 4, 5] (by decide) rfl
          exact W.iret (v := (-1)) hx hb hr (fun t ht hW => ⟨⟨(-1), (-1), rfl, rfl, by rw [ht]; exact hP9, va_K.moved hW.alike hK, hD9⟩, hS.F ht⟩) hS.2.2 dX7_lowestThreeOf_72
      ·
        have c_21 : ¬ (v_r_number_i ≤ (i5_L_17).toInt) := zz_len v_r_number_h rfl c_21
        refine lv_aload_n hx hb dX7_lowestThreeOf_17 rfl (lv_at hl 3 rfl) ?_
        refine lv_iload_n hx hb dX7_lowestThreeOf_18 rfl (lv_at hl 4 rfl) ?_
        refine lv_iload hx hb dX7_lowestThreeOf_19 (lv_at hl 0 rfl) ?_
        refine lv_aload_n hx hb dX7_lowestThreeOf_21 rfl (lv_at hl 5 rfl) ?_
        have hPc := hP.sub (ws' := [(h0, .inr (7, [.int v_x_number, .int v_x_limit, .ref x_totals, .ref x_points, .ref x_out])), (x_out, .inl (cZ, 20, .inl f_x_out)), (pRi, .inr (5, [.int v_r_number, .ref r_teams, .ref r_steady, .ref r_full, .ref r_climb])), (r_teams, .inl (cI, 20, .inl f_r_teams))]) [0, 3, 4, 5] rfl
        have hDc := hD.sub (ws' := [(h0, .inr (7, [.int v_x_number, .int v_x_limit, .ref x_totals, .ref x_points, .ref x_out])), (x_out, .inl (cZ, 20, .inl f_x_out)), (pRi, .inr (5, [.int v_r_number, .ref r_teams, .ref r_steady, .ref r_full, .ref r_climb])), (r_teams, .inl (cI, 20, .inl f_r_teams))]) [0, 3, 4, 5] (by decide) rfl
        have hFc := va_free (wc := [(h0, .inr (7, [.int v_x_number, .int v_x_limit, .ref x_totals, .ref x_points, .ref x_out])), (x_out, .inl (cZ, 20, .inl f_x_out)), (pRi, .inr (5, [.int v_r_number, .ref r_teams, .ref r_steady, .ref r_full, .ref r_climb])), (r_teams, .inl (cI, 20, .inl f_r_teams))]) hD hS hA [0, 3, 4, 5] rfl
        refine va_calli (va_runV (As := [.int pT, .int i5_L_17, .ref pRi]) (rest := []) ⟨hx, hb, hml, hown, hts⟩ (c_X7_countsFor l dC dI cI cZ (H).size h0 pT pT_i pT_h i5_L_17 ((i5_L_17).toInt) rfl (by omega) pRi v_x_number v_x_number_i v_x_number_h (by omega) v_x_limit v_x_limit_i v_x_limit_h x_totals x_points x_out f_x_out v_r_number v_r_number_i v_r_number_h (by omega) r_teams r_steady r_full r_climb f_r_teams R_r_teams) ⟨callB_of 3 hts (zz_good zw_688) rfl rfl rfl hw1 hw2 (by decide +kernel) ⟨Nat.le_of_ble_eq_true rfl, Nat.le_of_ble_eq_true rfl⟩, hw3, hw4⟩ ⟨fun a U g mk q => by obtain ⟨q0, q1, qP, qK, qD⟩ := q; exact ⟨q0, q1, qP, va_K.moved (u := U) (U := U.calling g mk a) (Vm.Alike.refl U.vm) qK, qD⟩, va_recv hK hPc (ci := 7) (q0 := 0) rfl rfl, fun U hU hW => ⟨rfl, by rw [hU], by rw [hU]; exact hPc, va_K.moved hW.alike hK, hDc.weaken (fun _ _ _ _ => trivial)⟩⟩ rfl rfl hl.1 rfl (lv_room (Nat.le_of_ble_eq_true rfl)) dX7_lowestThreeOf_22 ⟨Nat.le_of_ble_eq_true rfl, Nat.le_of_ble_eq_true rfl⟩) hS (fun q _ h => hFc q h) hFc (fun r_23 u t H1 locs ht hvm hpost hB hz1 hk1 hS => ?_)
        subst hpost
        obtain ⟨hf_24, hP1, hK1, hD1⟩ := hB
        rw [ht] at hP1
        obtain ⟨hP, hD⟩ := va_join (wr := [(x_totals, .inl (cI, 20, .inl f_x_totals)), (x_points, .inl (cI, 20, .inl f_x_points))]) (w1 := [(h0, .inr (7, [.int v_x_number, .int v_x_limit, .ref x_totals, .ref x_points, .ref x_out])), (x_out, .inl (cZ, 20, .inl f_x_out)), (pRi, .inr (5, [.int v_r_number, .ref r_teams, .ref r_steady, .ref r_full, .ref r_climb])), (r_teams, .inl (cI, 20, .inl f_r_teams))]) hP hD [0, 3, 4, 5] [1, 2] rfl rfl (by decide) (by decide) hk1 hFc hP1 hD1
        generalize H1 = H at hP hS ⊢
        have hP : va_P (dC, dI) vwCl [(x_totals, .inl (cI, 20, .inl f_x_totals)), (x_points, .inl (cI, 20, .inl f_x_points)), (h0, .inr (7, [.int v_x_number, .int v_x_limit, .ref x_totals, .ref x_points, .ref x_out])), (x_out, .inl (cZ, 20, .inl f_x_out)), (pRi, .inr (5, [.int v_r_number, .ref r_teams, .ref r_steady, .ref r_full, .ref r_climb])), (r_teams, .inl (cI, 20, .inl f_r_teams))] H := hP
        have hD : va_D A [(x_totals, .inl (cI, 20, .inl f_x_totals)), (x_points, .inl (cI, 20, .inl f_x_points)), (h0, .inr (7, [.int v_x_number, .int v_x_limit, .ref x_totals, .ref x_points, .ref x_out])), (x_out, .inl (cZ, 20, .inl f_x_out)), (pRi, .inr (5, [.int v_r_number, .ref r_teams, .ref r_steady, .ref r_full, .ref r_climb])), (r_teams, .inl (cI, 20, .inl f_r_teams))] := hD
        have hf_24 : 0 ≤ r_23.toInt ∧ r_23.toInt ≤ 1 := hf_24
        refine lv_if_eq (tgt := 55) hx hb dX7_lowestThreeOf_25 (by decide) (fun c_25 => ?_) (fun c_25 => ?_)
        ·
          have c_25 : (r_23).toInt = (0:Int) := zz_eq rfl (by decide) c_25
          obtain ⟨v_26, ev_26⟩ : ∃ y : Int32, y = i5_L_17 + 1 := ⟨_, rfl⟩
          have hv_26 : v_26.toInt = ((i5_L_17).toInt + (1:Int)) := by rw [ev_26]; exact zz_addI rfl (by decide) (by omega) (by omega)
          refine lv_iinc (v := v_26) (lv' := [(5, .int v_26), (4, .int i4_L_17), (3, .int i3_L_17), (0, .ref h0), (1, .int pT), (2, .ref pRi)]) hx hb dX7_lowestThreeOf_55 hl (k := 0) rfl (by rw [ev_26]; rfl) (by decide) rfl (fun ls hl => ?_)
          refine lv_goto (tgt := 8) hx hb dX7_lowestThreeOf_58 (by decide) ?_
          have hb_27_i5_L_17 : (v_26 : Int32).toInt = ((i5_L_17).toInt + (1:Int)) := hv_26
          have hb_27_i4_L_17 : (i4_L_17 : Int32).toInt = (i4_L_17).toInt := rfl
          have hb_27_i3_L_17 : (i3_L_17 : Int32).toInt = (i3_L_17).toInt := rfl
          exact ih_18 v_26 i4_L_17 i3_L_17 H locs ls (by omega) (by omega) (by omega) (hP.sub [2, 0, 1, 3, 4, 5] rfl) (hD.sub [2, 0, 1, 3, 4, 5] (by decide) rfl) hS (lv_sub hl [0, 1, 2, 3, 4, 5] rfl)
        ·
          have c_25 : ¬ ((r_23).toInt = (0:Int)) := zz_eqn rfl (by decide) c_25
          refine lv_aload_n hx hb dX7_lowestThreeOf_28 rfl (lv_at hl 3 rfl) ?_
          refine lv_iload_n hx hb dX7_lowestThreeOf_29 rfl (lv_at hl 4 rfl) ?_
          refine lv_iload hx hb dX7_lowestThreeOf_30 (lv_at hl 0 rfl) ?_
          refine lv_aload_n hx hb dX7_lowestThreeOf_32 rfl (lv_at hl 5 rfl) ?_
          have hPc := hP.sub (ws' := [(h0, .inr (7, [.int v_x_number, .int v_x_limit, .ref x_totals, .ref x_points, .ref x_out])), (x_totals, .inl (cI, 20, .inl f_x_totals)), (x_points, .inl (cI, 20, .inl f_x_points)), (x_out, .inl (cZ, 20, .inl f_x_out)), (pRi, .inr (5, [.int v_r_number, .ref r_teams, .ref r_steady, .ref r_full, .ref r_climb])), (r_teams, .inl (cI, 20, .inl f_r_teams))]) [2, 0, 1, 3, 4, 5] rfl
          have hDc := hD.sub (ws' := [(h0, .inr (7, [.int v_x_number, .int v_x_limit, .ref x_totals, .ref x_points, .ref x_out])), (x_totals, .inl (cI, 20, .inl f_x_totals)), (x_points, .inl (cI, 20, .inl f_x_points)), (x_out, .inl (cZ, 20, .inl f_x_out)), (pRi, .inr (5, [.int v_r_number, .ref r_teams, .ref r_steady, .ref r_full, .ref r_climb])), (r_teams, .inl (cI, 20, .inl f_r_teams))]) [2, 0, 1, 3, 4, 5] (by decide) rfl
          have hFc := va_free (wc := [(h0, .inr (7, [.int v_x_number, .int v_x_limit, .ref x_totals, .ref x_points, .ref x_out])), (x_totals, .inl (cI, 20, .inl f_x_totals)), (x_points, .inl (cI, 20, .inl f_x_points)), (x_out, .inl (cZ, 20, .inl f_x_out)), (pRi, .inr (5, [.int v_r_number, .ref r_teams, .ref r_steady, .ref r_full, .ref r_climb])), (r_teams, .inl (cI, 20, .inl f_r_teams))]) hD hS hA [2, 0, 1, 3, 4, 5] rfl
          refine va_calli (va_runV (As := [.int pT, .int i5_L_17, .ref pRi]) (rest := []) ⟨hx, hb, hml, hown, hts⟩ (c_X7_matesAhead l dC dI cI cZ (H).size h0 pT pT_i pT_h i5_L_17 ((i5_L_17).toInt) rfl (by omega) pRi v_x_number v_x_number_i v_x_number_h (by omega) v_x_limit v_x_limit_i v_x_limit_h x_totals x_points x_out f_x_totals f_x_points f_x_out v_r_number v_r_number_i v_r_number_h (by omega) r_teams r_steady r_full r_climb f_r_teams R_r_teams) ⟨callB_of 3 hts (zz_good zw_692) rfl rfl rfl hw1 hw5 (by decide +kernel) ⟨Nat.le_of_ble_eq_true rfl, Nat.le_of_ble_eq_true rfl⟩, hw6, hw7⟩ ⟨fun a U g mk q => by obtain ⟨q0, q1, qP, qK, qD⟩ := q; exact ⟨q0, q1, qP, va_K.moved (u := U) (U := U.calling g mk a) (Vm.Alike.refl U.vm) qK, qD⟩, va_recv hK hPc (ci := 7) (q0 := 0) rfl rfl, fun U hU hW => ⟨rfl, by rw [hU], by rw [hU]; exact hPc, va_K.moved hW.alike hK, hDc.weaken (fun _ _ _ _ => trivial)⟩⟩ rfl rfl hl.1 rfl (lv_room (Nat.le_of_ble_eq_true rfl)) dX7_lowestThreeOf_33 ⟨Nat.le_of_ble_eq_true rfl, Nat.le_of_ble_eq_true rfl⟩) hS (fun q _ h => hFc q h) hFc (fun r_28 u t H1 locs ht hvm hpost hB hz1 hk1 hS => ?_)
          subst hpost
          obtain ⟨hP1, hK1, hD1⟩ := hB
          rw [ht] at hP1
          obtain ⟨hP, hD⟩ := va_join (wr := []) (w1 := [(h0, .inr (7, [.int v_x_number, .int v_x_limit, .ref x_totals, .ref x_points, .ref x_out])), (x_totals, .inl (cI, 20, .inl f_x_totals)), (x_points, .inl (cI, 20, .inl f_x_points)), (x_out, .inl (cZ, 20, .inl f_x_out)), (pRi, .inr (5, [.int v_r_number, .ref r_teams, .ref r_steady, .ref r_full, .ref r_climb])), (r_teams, .inl (cI, 20, .inl f_r_teams))]) hP hD [2, 0, 1, 3, 4, 5] [] rfl rfl (by decide) (by decide) hk1 hFc hP1 hD1
          generalize H1 = H at hP hS ⊢
          have hP : va_P (dC, dI) vwCl [(h0, .inr (7, [.int v_x_number, .int v_x_limit, .ref x_totals, .ref x_points, .ref x_out])), (x_totals, .inl (cI, 20, .inl f_x_totals)), (x_points, .inl (cI, 20, .inl f_x_points)), (x_out, .inl (cZ, 20, .inl f_x_out)), (pRi, .inr (5, [.int v_r_number, .ref r_teams, .ref r_steady, .ref r_full, .ref r_climb])), (r_teams, .inl (cI, 20, .inl f_r_teams))] H := hP
          have hD : va_D A [(h0, .inr (7, [.int v_x_number, .int v_x_limit, .ref x_totals, .ref x_points, .ref x_out])), (x_totals, .inl (cI, 20, .inl f_x_totals)), (x_points, .inl (cI, 20, .inl f_x_points)), (x_out, .inl (cZ, 20, .inl f_x_out)), (pRi, .inr (5, [.int v_r_number, .ref r_teams, .ref r_steady, .ref r_full, .ref r_climb])), (r_teams, .inl (cI, 20, .inl f_r_teams))] := hD
          refine lv_iconst (v := 3) hx hb dX7_lowestThreeOf_36 (by decide) ?_
          refine lv_icmp_ge (tgt := 55) hx hb dX7_lowestThreeOf_37 (by decide) (fun c_29 => ?_) (fun c_29 => ?_)
          ·
            have c_29 : (3:Int) ≤ (r_28).toInt := zz_le (by decide) rfl c_29
            obtain ⟨v_30, ev_30⟩ : ∃ y : Int32, y = i5_L_17 + 1 := ⟨_, rfl⟩
            have hv_30 : v_30.toInt = ((i5_L_17).toInt + (1:Int)) := by rw [ev_30]; exact zz_addI rfl (by decide) (by omega) (by omega)
            refine lv_iinc (v := v_30) (lv' := [(5, .int v_30), (4, .int i4_L_17), (3, .int i3_L_17), (0, .ref h0), (1, .int pT), (2, .ref pRi)]) hx hb dX7_lowestThreeOf_55 hl (k := 0) rfl (by rw [ev_30]; rfl) (by decide) rfl (fun ls hl => ?_)
            refine lv_goto (tgt := 8) hx hb dX7_lowestThreeOf_58 (by decide) ?_
            have hb_31_i5_L_17 : (v_30 : Int32).toInt = ((i5_L_17).toInt + (1:Int)) := hv_30
            have hb_31_i4_L_17 : (i4_L_17 : Int32).toInt = (i4_L_17).toInt := rfl
            have hb_31_i3_L_17 : (i3_L_17 : Int32).toInt = (i3_L_17).toInt := rfl
            exact ih_18 v_30 i4_L_17 i3_L_17 H locs ls (by omega) (by omega) (by omega) (hP.sub [0, 1, 2, 3, 4, 5] rfl) (hD.sub [0, 1, 2, 3, 4, 5] (by decide) rfl) hS (lv_sub hl [0, 1, 2, 3, 4, 5] rfl)
          ·
            have c_29 : ¬ ((3:Int) ≤ (r_28).toInt) := zz_len (by decide) rfl c_29
            refine lv_iload hx hb dX7_lowestThreeOf_40 (lv_at hl 1 rfl) ?_
            refine lv_aload_n hx hb dX7_lowestThreeOf_42 rfl (lv_at hl 3 rfl) ?_
            refine va_get (D := (dC, dI)) (ci := 7) (v := .ref x_totals) (C := RX7) (T := TX7) (N := 5) hx hb hts hiX7 hown hK hP 0 rfl rfl 2 (by decide) hw8 (fun _ h9 => h9) rfl dX7_lowestThreeOf_43 ?_
            refine lv_iload hx hb dX7_lowestThreeOf_46 (lv_at hl 0 rfl) ?_
            refine va_iald hx hb hK hP 1 0 rfl rfl (zz_in (a := (i5_L_17).toInt) rfl (by omega) (by omega)) dX7_lowestThreeOf_48 ?_
            refine lv_topi (fun v_32 ev_32 => ?_)
            refine lv_iadd hx hb dX7_lowestThreeOf_49 ?_
            refine lv_topi (fun v_33 _ => ?_)
            refine lv_istore (lv' := [(4, .int v_33), (5, .int i5_L_17), (3, .int i3_L_17), (0, .ref h0), (1, .int pT), (2, .ref pRi)]) hx hb dX7_lowestThreeOf_50 hl (by decide) rfl (fun ls hl => ?_)
            obtain ⟨v_34, ev_34⟩ : ∃ y : Int32, y = i3_L_17 + 1 := ⟨_, rfl⟩
            refine lv_iinc (v := v_34) (lv' := [(3, .int v_34), (4, .int v_33), (5, .int i5_L_17), (0, .ref h0), (1, .int pT), (2, .ref pRi)]) hx hb dX7_lowestThreeOf_52 hl (k := 2) rfl (by rw [ev_34]; rfl) (by decide) rfl (fun ls hl => ?_)
            obtain ⟨v_35, ev_35⟩ : ∃ y : Int32, y = i5_L_17 + 1 := ⟨_, rfl⟩
            have hv_35 : v_35.toInt = ((i5_L_17).toInt + (1:Int)) := by rw [ev_35]; exact zz_addI rfl (by decide) (by omega) (by omega)
            refine lv_iinc (v := v_35) (lv' := [(5, .int v_35), (3, .int v_34), (4, .int v_33), (0, .ref h0), (1, .int pT), (2, .ref pRi)]) hx hb dX7_lowestThreeOf_55 hl (k := 2) rfl (by rw [ev_35]; rfl) (by decide) rfl (fun ls hl => ?_)
            refine lv_goto (tgt := 8) hx hb dX7_lowestThreeOf_58 (by decide) ?_
            have hb_36_i5_L_17 : (v_35 : Int32).toInt = ((i5_L_17).toInt + (1:Int)) := hv_35
            have hb_36_i4_L_17 : (v_33 : Int32).toInt = (v_33).toInt := rfl
            have hb_36_i3_L_17 : (v_34 : Int32).toInt = (v_34).toInt := rfl
            exact ih_18 v_35 v_33 v_34 H locs ls (by omega) (by omega) (by omega) (hP.sub [0, 1, 2, 3, 4, 5] rfl) (hD.sub [0, 1, 2, 3, 4, 5] (by decide) rfl) hS (lv_sub hl [0, 2, 1, 3, 4, 5] rfl)
  have hb_37_i5_L_17 : (0 : Int32).toInt = (0:Int) := (by decide)
  have hb_37_i4_L_17 : (0 : Int32).toInt = (0:Int) := (by decide)
  have hb_37_i3_L_17 : (0 : Int32).toInt = (0:Int) := (by decide)
  exact L_17 1000 0 0 0 s.heap [] ls (by omega) (by omega) (by omega) (hP.sub [0, 1, 2, 3, 4, 5] rfl) (hD.sub [0, 1, 2, 3, 4, 5] (by decide) rfl) hS (lv_sub hl [0, 1, 2, 3, 4, 5] rfl)
