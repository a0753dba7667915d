set_option maxHeartbeats 8000000 in
set_option maxRecDepth 100000 in
theorem c_X2_isDigit (l : Launch) (dC : Nat → ClassId) (dI : Nat → Nat → Nat) (cI cZ : ClassId) (sz : Nat) (pN : Int32) (pN_i : Int) (pN_h : pN.toInt = pN_i) : Met l yX2_isDigit (Cond.code yX2_isDigit cX2_isDigit 1 (some .boolean) :: lw_good) ({ frames := 0, cells := 0, slots := 0, locals := 0 }) (va_Pc [.int pN] (fun U => U.heap.size = sz ∧ va_P (dC, dI) vwCl [] U.heap ∧ va_K (dC, dI) vwCl [(cI, .int), (cZ, .boolean)] U ∧ va_D (fun _ => True) [])) (va_Qi (fun (r u : Int32) => r = u) (fun u t => ((u = 1 ∧ (48 ≤ pN_i ∧ pN_i ≤ 57)) ∨ (u = 0 ∧ ¬ (48 ≤ pN_i ∧ pN_i ≤ 57))) ∧ va_P (dC, dI) vwCl [] t.heap ∧ va_K (dC, dI) vwCl [(cI, .int), (cZ, .boolean)] t ∧ va_D (va_A [] sz) []) (va_A [] sz)) 0 0 (va_A [] sz) := by
  refine Met.ofW (cc := cX2_isDigit) (maxL := 1) (ret := (some .boolean)) (by decide) rfl ?_
  intro p e s m args below meth c s₁ B hml hv
  obtain ⟨rfl, hsz, hP, hK, hD0⟩ := hv
  have hx := B.exec
  have hb := B.bytes
  have hr := B.returns
  have hts := atoms_spec (ws := Cond.code yX2_isDigit cX2_isDigit 1 (some .boolean) :: lw_good) B.pre
  have hown : s.vm.findClass RX2 = some m.cls := findClass_of_methodNamed B.named
  have hlocks := B.notSynchronized
  subst hsz
  have hD := hD0.self (sz := s.heap.size)
  generalize hAe : va_A [] s.heap.size = A at hD ⊢
  have hA : ∀ q : Nat, s.heap.size ≤ q → A q := fun q h => by rw [← hAe]; exact Or.inr h
  have hS : va_S A s.heap s.heap [] := va_S.rf
  have hP : va_P (dC, dI) vwCl [] s.heap := hP
  have hl := lv_entry ([.int pN]) (n := 1) (Nat.le_of_ble_eq_true rfl)
  rw [lg_entry_eq]
  generalize (lg_sl ([.int pN]) ++ List.replicate (1 - (lg_sl ([.int pN])).length) Slot.unset).toArray = ls at hl ⊢
  have hl : lv_has ls 1 [(0, .int pN)] := hl
  refine lv_iload_n hx hb dX2_isDigit_0 rfl (lv_at hl 0 rfl) ?_
  refine lv_bipush (v := 48) hx hb dX2_isDigit_1 (by decide) ?_
  refine lv_icmp_lt (tgt := 16) hx hb dX2_isDigit_3 (by decide) (fun c_1 => ?_) (fun c_1 => ?_)
  ·
    have c_1 : pN_i < (48:Int) := zz_lt pN_h (by decide) c_1
    refine lv_iconst (v := 0) hx hb dX2_isDigit_16 (by decide) ?_
    have hu9 : (0 : Int32).toInt = (0:Int) := (by decide)
    have hP9 := hP.sub (ws' := []) [] rfl
    have hD9 := hD.sub (ws' := []) [] (by decide) rfl
    have hf9_0 : ((0 : Int32) = 1 ∧ (48 ≤ pN_i ∧ pN_i ≤ 57)) ∨ ((0 : Int32) = 0 ∧ ¬ (48 ≤ pN_i ∧ pN_i ≤ 57)) := Or.inr ⟨rfl, by omega⟩
    exact W.zret (v := 0) hx hb hr rfl (fun t ht hW => ⟨⟨0, 0, rfl, rfl, hf9_0, by rw [ht]; exact hP9, va_K.moved hW.alike hK, hD9⟩, hS.F ht⟩) hS.2.2 dX2_isDigit_17
  ·
    have c_1 : ¬ (pN_i < (48:Int)) := zz_ltn pN_h (by decide) c_1
    refine lv_iload_n hx hb dX2_isDigit_6 rfl (lv_at hl 0 rfl) ?_
    refine lv_bipush (v := 57) hx hb dX2_isDigit_7 (by decide) ?_
    refine lv_icmp_gt (tgt := 16) hx hb dX2_isDigit_9 (by decide) (fun c_2 => ?_) (fun c_2 => ?_)
    ·
      have c_2 : (57:Int) < pN_i := zz_lt (by decide) pN_h c_2
      refine lv_iconst (v := 0) hx hb dX2_isDigit_16 (by decide) ?_
      have hu9 : (0 : Int32).toInt = (0:Int) := (by decide)
      have hP9 := hP.sub (ws' := []) [] rfl
      have hD9 := hD.sub (ws' := []) [] (by decide) rfl
      have hf9_0 : ((0 : Int32) = 1 ∧ (48 ≤ pN_i ∧ pN_i ≤ 57)) ∨ ((0 : Int32) = 0 ∧ ¬ (48 ≤ pN_i ∧ pN_i ≤ 57)) := Or.inr ⟨rfl, by omega⟩
      exact W.zret (v := 0) hx hb hr rfl (fun t ht hW => ⟨⟨0, 0, rfl, rfl, hf9_0, by rw [ht]; exact hP9, va_K.moved hW.alike hK, hD9⟩, hS.F ht⟩) hS.2.2 dX2_isDigit_17
    ·
      have c_2 : ¬ ((57:Int) < pN_i) := zz_ltn (by decide) pN_h c_2
      refine lv_iconst (v := 1) hx hb dX2_isDigit_12 (by decide) ?_
      refine lv_goto (tgt := 17) hx hb dX2_isDigit_13 (by decide) ?_
      have hu9 : (1 : Int32).toInt = (1:Int) := (by decide)
      have hP9 := hP.sub (ws' := []) [] rfl
      have hD9 := hD.sub (ws' := []) [] (by decide) rfl
      have hf9_0 : ((1 : Int32) = 1 ∧ (48 ≤ pN_i ∧ pN_i ≤ 57)) ∨ ((1 : Int32) = 0 ∧ ¬ (48 ≤ pN_i ∧ pN_i ≤ 57)) := Or.inl ⟨rfl, by omega⟩
      exact W.zret (v := 1) hx hb hr rfl (fun t ht hW => ⟨⟨1, 1, rfl, rfl, hf9_0, by rw [ht]; exact hP9, va_K.moved hW.alike hK, hD9⟩, hS.F ht⟩) hS.2.2 dX2_isDigit_17

set_option maxHeartbeats 8000000 in
set_option maxRecDepth 100000 in
theorem c_X2_askedBy (l : Launch) (dC : Nat → ClassId) (dI : Nat → Nat → Nat) (cI cZ : ClassId) (sz : Nat) (pN : Int32) (pN_i : Int) (pN_h : pN.toInt = pN_i) : Met l yX2_askedBy (Cond.code yX2_askedBy cX2_askedBy 1 (some .int) :: lw_good) ({ frames := 0, cells := 0, slots := 0, locals := 0 }) (va_Pc [.int pN] (fun U => U.heap.size = sz ∧ va_P (dC, dI) vwCl [] U.heap ∧ va_K (dC, dI) vwCl [(cI, .int), (cZ, .boolean)] U ∧ va_D (fun _ => True) [])) (va_Qi (fun (r u : Int32) => r = u) (fun u t => (((pN_i = 115 ∨ pN_i = 107 ∨ pN_i = 103 ∨ pN_i = 110 ∨ pN_i = 112) ∧ 0 ≤ u.toInt) ∨ (¬ (pN_i = 115 ∨ pN_i = 107 ∨ pN_i = 103 ∨ pN_i = 110 ∨ pN_i = 112) ∧ u.toInt = -1)) ∧ (-1 ≤ u.toInt ∧ u.toInt ≤ 4) ∧ va_P (dC, dI) vwCl [] t.heap ∧ va_K (dC, dI) vwCl [(cI, .int), (cZ, .boolean)] t ∧ va_D (va_A [] sz) []) (va_A [] sz)) 0 0 (va_A [] sz) := by
  refine Met.ofW (cc := cX2_askedBy) (maxL := 1) (ret := (some .int)) (by decide) rfl ?_
  intro p e s m args below meth c s₁ B hml hv
  obtain ⟨rfl, hsz, hP, hK, hD0⟩ := hv
  have hx := B.exec
  have hb := B.bytes
  have hr := B.returns
  have hts := atoms_spec (ws := Cond.code yX2_askedBy cX2_askedBy 1 (some .int) :: lw_good) B.pre
  have hown : s.vm.findClass RX2 = some m.cls := findClass_of_methodNamed B.named
  have hlocks := B.notSynchronized
  subst hsz
  have hD := hD0.self (sz := s.heap.size)
  generalize hAe : va_A [] s.heap.size = A at hD ⊢
  have hA : ∀ q : Nat, s.heap.size ≤ q → A q := fun q h => by rw [← hAe]; exact Or.inr h
  have hS : va_S A s.heap s.heap [] := va_S.rf
  have hP : va_P (dC, dI) vwCl [] s.heap := hP
  have hl := lv_entry ([.int pN]) (n := 1) (Nat.le_of_ble_eq_true rfl)
  rw [lg_entry_eq]
  generalize (lg_sl ([.int pN]) ++ List.replicate (1 - (lg_sl ([.int pN])).length) Slot.unset).toArray = ls at hl ⊢
  have hl : lv_has ls 1 [(0, .int pN)] := hl
  refine lv_iload_n hx hb dX2_askedBy_0 rfl (lv_at hl 0 rfl) ?_
  have hs_1 : (pN : Int32).toInt = pN_i := pN_h
  rcases (show pN_i < 103 ∨ 115 < pN_i ∨ pN_i = 103 ∨ pN_i = 104 ∨ pN_i = 105 ∨ pN_i = 106 ∨ pN_i = 107 ∨ pN_i = 108 ∨ pN_i = 109 ∨ pN_i = 110 ∨ pN_i = 111 ∨ pN_i = 112 ∨ pN_i = 113 ∨ pN_i = 114 ∨ pN_i = 115 by omega) with q_2 | q_2 | q_2 | q_2 | q_2 | q_2 | q_2 | q_2 | q_2 | q_2 | q_2 | q_2 | q_2 | q_2 | q_2
  ·
    refine lv_tableOut (tgt := 78) hx hb dX2_askedBy_1 (by rw [hs_1]; omega) (by decide) ?_
    refine lv_iconst (v := (-1)) hx hb dX2_askedBy_78 (by decide) ?_
    have hu9 : ((-1) : Int32).toInt = (-1:Int) := (by decide)
    have hP9 := hP.sub (ws' := []) [] rfl
    have hD9 := hD.sub (ws' := []) [] (by decide) rfl
    have hf9_0 : ((pN_i = 115 ∨ pN_i = 107 ∨ pN_i = 103 ∨ pN_i = 110 ∨ pN_i = 112) ∧ 0 ≤ ((-1) : Int32).toInt) ∨ (¬ (pN_i = 115 ∨ pN_i = 107 ∨ pN_i = 103 ∨ pN_i = 110 ∨ pN_i = 112) ∧ ((-1) : Int32).toInt = -1) := by omega
    have hf9_1 : -1 ≤ ((-1) : Int32).toInt ∧ ((-1) : Int32).toInt ≤ 4 := by omega
    exact W.iret (v := (-1)) hx hb hr (fun t ht hW => ⟨⟨(-1), (-1), rfl, rfl, hf9_0, hf9_1, by rw [ht]; exact hP9, va_K.moved hW.alike hK, hD9⟩, hS.F ht⟩) hS.2.2 dX2_askedBy_79
  ·
    refine lv_tableOut (tgt := 78) hx hb dX2_askedBy_1 (by rw [hs_1]; omega) (by decide) ?_
    refine lv_iconst (v := (-1)) hx hb dX2_askedBy_78 (by decide) ?_
    have hu9 : ((-1) : Int32).toInt = (-1:Int) := (by decide)
    have hP9 := hP.sub (ws' := []) [] rfl
    have hD9 := hD.sub (ws' := []) [] (by decide) rfl
    have hf9_0 : ((pN_i = 115 ∨ pN_i = 107 ∨ pN_i = 103 ∨ pN_i = 110 ∨ pN_i = 112) ∧ 0 ≤ ((-1) : Int32).toInt) ∨ (¬ (pN_i = 115 ∨ pN_i = 107 ∨ pN_i = 103 ∨ pN_i = 110 ∨ pN_i = 112) ∧ ((-1) : Int32).toInt = -1) := by omega
    have hf9_1 : -1 ≤ ((-1) : Int32).toInt ∧ ((-1) : Int32).toInt ≤ 4 := by omega
    exact W.iret (v := (-1)) hx hb hr (fun t ht hW => ⟨⟨(-1), (-1), rfl, rfl, hf9_0, hf9_1, by rw [ht]; exact hP9, va_K.moved hW.alike hK, hD9⟩, hS.F ht⟩) hS.2.2 dX2_askedBy_79
  ·
    refine lv_tableIn (tgt := 72) (off := 71) hx hb dX2_askedBy_1 (by rw [hs_1]; omega) (by rw [hs_1]; omega) (by rw [hs_1, q_2]; rfl) (by decide) ?_
    refine lv_iconst (v := 2) hx hb dX2_askedBy_72 (by decide) ?_
    have hu9 : (2 : Int32).toInt = (2:Int) := (by decide)
    have hP9 := hP.sub (ws' := []) [] rfl
    have hD9 := hD.sub (ws' := []) [] (by decide) rfl
    have hf9_0 : ((pN_i = 115 ∨ pN_i = 107 ∨ pN_i = 103 ∨ pN_i = 110 ∨ pN_i = 112) ∧ 0 ≤ (2 : Int32).toInt) ∨ (¬ (pN_i = 115 ∨ pN_i = 107 ∨ pN_i = 103 ∨ pN_i = 110 ∨ pN_i = 112) ∧ (2 : Int32).toInt = -1) := by omega
    have hf9_1 : -1 ≤ (2 : Int32).toInt ∧ (2 : Int32).toInt ≤ 4 := by omega
    exact W.iret (v := 2) hx hb hr (fun t ht hW => ⟨⟨2, 2, rfl, rfl, hf9_0, hf9_1, by rw [ht]; exact hP9, va_K.moved hW.alike hK, hD9⟩, hS.F ht⟩) hS.2.2 dX2_askedBy_73
  ·
    refine lv_tableIn (tgt := 78) (off := 77) hx hb dX2_askedBy_1 (by rw [hs_1]; omega) (by rw [hs_1]; omega) (by rw [hs_1, q_2]; rfl) (by decide) ?_
    refine lv_iconst (v := (-1)) hx hb dX2_askedBy_78 (by decide) ?_
    have hu9 : ((-1) : Int32).toInt = (-1:Int) := (by decide)
    have hP9 := hP.sub (ws' := []) [] rfl
    have hD9 := hD.sub (ws' := []) [] (by decide) rfl
    have hf9_0 : ((pN_i = 115 ∨ pN_i = 107 ∨ pN_i = 103 ∨ pN_i = 110 ∨ pN_i = 112) ∧ 0 ≤ ((-1) : Int32).toInt) ∨ (¬ (pN_i = 115 ∨ pN_i = 107 ∨ pN_i = 103 ∨ pN_i = 110 ∨ pN_i = 112) ∧ ((-1) : Int32).toInt = -1) := by omega
    have hf9_1 : -1 ≤ ((-1) : Int32).toInt ∧ ((-1) : Int32).toInt ≤ 4 := by omega
    exact W.iret (v := (-1)) hx hb hr (fun t ht hW => ⟨⟨(-1), (-1), rfl, rfl, hf9_0, hf9_1, by rw [ht]; exact hP9, va_K.moved hW.alike hK, hD9⟩, hS.F ht⟩) hS.2.2 dX2_askedBy_79
  ·
    refine lv_tableIn (tgt := 78) (off := 77) hx hb dX2_askedBy_1 (by rw [hs_1]; omega) (by rw [hs_1]; omega) (by rw [hs_1, q_2]; rfl) (by decide) ?_
    refine lv_iconst (v := (-1)) hx hb dX2_askedBy_78 (by decide) ?_
    have hu9 : ((-1) : Int32).toInt = (-1:Int) := (by decide)
    have hP9 := hP.sub (ws' := []) [] rfl
    have hD9 := hD.sub (ws' := []) [] (by decide) rfl
    have hf9_0 : ((pN_i = 115 ∨ pN_i = 107 ∨ pN_i = 103 ∨ pN_i = 110 ∨ pN_i = 112) ∧ 0 ≤ ((-1) : Int32).toInt) ∨ (¬ (pN_i = 115 ∨ pN_i = 107 ∨ pN_i = 103 ∨ pN_i = 110 ∨ pN_i = 112) ∧ ((-1) : Int32).toInt = -1) := by omega
    have hf9_1 : -1 ≤ ((-1) : Int32).toInt ∧ ((-1) : Int32).toInt ≤ 4 := by omega
    exact W.iret (v := (-1)) hx hb hr (fun t ht hW => ⟨⟨(-1), (-1), rfl, rfl, hf9_0, hf9_1, by rw [ht]; exact hP9, va_K.moved hW.alike hK, hD9⟩, hS.F ht⟩) hS.2.2 dX2_askedBy_79
  ·
    refine lv_tableIn (tgt := 78) (off := 77) hx hb dX2_askedBy_1 (by rw [hs_1]; omega) (by rw [hs_1]; omega) (by rw [hs_1, q_2]; rfl) (by decide) ?_
    refine lv_iconst (v := (-1)) hx hb dX2_askedBy_78 (by decide) ?_
    have hu9 : ((-1) : Int32).toInt = (-1:Int) := (by decide)
    have hP9 := hP.sub (ws' := []) [] rfl
    have hD9 := hD.sub (ws' := []) [] (by decide) rfl
    have hf9_0 : ((pN_i = 115 ∨ pN_i = 107 ∨ pN_i = 103 ∨ pN_i = 110 ∨ pN_i = 112) ∧ 0 ≤ ((-1) : Int32).toInt) ∨ (¬ (pN_i = 115 ∨ pN_i = 107 ∨ pN_i = 103 ∨ pN_i = 110 ∨ pN_i = 112) ∧ ((-1) : Int32).toInt = -1) := by omega
    have hf9_1 : -1 ≤ ((-1) : Int32).toInt ∧ ((-1) : Int32).toInt ≤ 4 := by omega
    exact W.iret (v := (-1)) hx hb hr (fun t ht hW => ⟨⟨(-1), (-1), rfl, rfl, hf9_0, hf9_1, by rw [ht]; exact hP9, va_K.moved hW.alike hK, hD9⟩, hS.F ht⟩) hS.2.2 dX2_askedBy_79
  ·
    refine lv_tableIn (tgt := 70) (off := 69) hx hb dX2_askedBy_1 (by rw [hs_1]; omega) (by rw [hs_1]; omega) (by rw [hs_1, q_2]; rfl) (by decide) ?_
    refine lv_iconst (v := 1) hx hb dX2_askedBy_70 (by decide) ?_
    have hu9 : (1 : Int32).toInt = (1:Int) := (by decide)
    have hP9 := hP.sub (ws' := []) [] rfl
    have hD9 := hD.sub (ws' := []) [] (by decide) rfl
    have hf9_0 : ((pN_i = 115 ∨ pN_i = 107 ∨ pN_i = 103 ∨ pN_i = 110 ∨ pN_i = 112) ∧ 0 ≤ (1 : Int32).toInt) ∨ (¬ (pN_i = 115 ∨ pN_i = 107 ∨ pN_i = 103 ∨ pN_i = 110 ∨ pN_i = 112) ∧ (1 : Int32).toInt = -1) := by omega
    have hf9_1 : -1 ≤ (1 : Int32).toInt ∧ (1 : Int32).toInt ≤ 4 := by omega
    exact W.iret (v := 1) hx hb hr (fun t ht hW => ⟨⟨1, 1, rfl, rfl, hf9_0, hf9_1, by rw [ht]; exact hP9, va_K.moved hW.alike hK, hD9⟩, hS.F ht⟩) hS.2.2 dX2_askedBy_71
  ·
    refine lv_tableIn (tgt := 78) (off := 77) hx hb dX2_askedBy_1 (by rw [hs_1]; omega) (by rw [hs_1]; omega) (by rw [hs_1, q_2]; rfl) (by decide) ?_
    refine lv_iconst (v := (-1)) hx hb dX2_askedBy_78 (by decide) ?_
    have hu9 : ((-1) : Int32).toInt = (-1:Int) := (by decide)
    have hP9 := hP.sub (ws' := []) [] rfl
    have hD9 := hD.sub (ws' := []) [] (by decide) rfl
    have hf9_0 : ((pN_i = 115 ∨ pN_i = 107 ∨ pN_i = 103 ∨ pN_i = 110 ∨ pN_i = 112) ∧ 0 ≤ ((-1) : Int32).toInt) ∨ (¬ (pN_i = 115 ∨ pN_i = 107 ∨ pN_i = 103 ∨ pN_i = 110 ∨ pN_i = 112) ∧ ((-1) : Int32).toInt = -1) := by omega
    have hf9_1 : -1 ≤ ((-1) : Int32).toInt ∧ ((-1) : Int32).toInt ≤ 4 := by omega
    exact W.iret (v := (-1)) hx hb hr (fun t ht hW => ⟨⟨(-1), (-1), rfl, rfl, hf9_0, hf9_1, by rw [ht]; exact hP9, va_K.moved hW.alike hK, hD9⟩, hS.F ht⟩) hS.2.2 dX2_askedBy_79
  ·
    refine lv_tableIn (tgt := 78) (off := 77) hx hb dX2_askedBy_1 (by rw [hs_1]; omega) (by rw [hs_1]; omega) (by rw [hs_1, q_2]; rfl) (by decide) ?_
    refine lv_iconst (v := (-1)) hx hb dX2_askedBy_78 (by decide) ?_
    have hu9 : ((-1) : Int32).toInt = (-1:Int) := (by decide)
    have hP9 := hP.sub (ws' := []) [] rfl
    have hD9 := hD.sub (ws' := []) [] (by decide) rfl
    have hf9_0 : ((pN_i = 115 ∨ pN_i = 107 ∨ pN_i = 103 ∨ pN_i = 110 ∨ pN_i = 112) ∧ 0 ≤ ((-1) : Int32).toInt) ∨ (¬ (pN_i = 115 ∨ pN_i = 107 ∨ pN_i = 103 ∨ pN_i = 110 ∨ pN_i = 112) ∧ ((-1) : Int32).toInt = -1) := by omega
    have hf9_1 : -1 ≤ ((-1) : Int32).toInt ∧ ((-1) : Int32).toInt ≤ 4 := by omega
    exact W.iret (v := (-1)) hx hb hr (fun t ht hW => ⟨⟨(-1), (-1), rfl, rfl, hf9_0, hf9_1, by rw [ht]; exact hP9, va_K.moved hW.alike hK, hD9⟩, hS.F ht⟩) hS.2.2 dX2_askedBy_79
  ·
    refine lv_tableIn (tgt := 74) (off := 73) hx hb dX2_askedBy_1 (by rw [hs_1]; omega) (by rw [hs_1]; omega) (by rw [hs_1, q_2]; rfl) (by decide) ?_
    refine lv_iconst (v := 3) hx hb dX2_askedBy_74 (by decide) ?_
    have hu9 : (3 : Int32).toInt = (3:Int) := (by decide)
    have hP9 := hP.sub (ws' := []) [] rfl
    have hD9 := hD.sub (ws' := []) [] (by decide) rfl
    have hf9_0 : ((pN_i = 115 ∨ pN_i = 107 ∨ pN_i = 103 ∨ pN_i = 110 ∨ pN_i = 112) ∧ 0 ≤ (3 : Int32).toInt) ∨ (¬ (pN_i = 115 ∨ pN_i = 107 ∨ pN_i = 103 ∨ pN_i = 110 ∨ pN_i = 112) ∧ (3 : Int32).toInt = -1) := by omega
    have hf9_1 : -1 ≤ (3 : Int32).toInt ∧ (3 : Int32).toInt ≤ 4 := by omega
    exact W.iret (v := 3) hx hb hr (fun t ht hW => ⟨⟨3, 3, rfl, rfl, hf9_0, hf9_1, by rw [ht]; exact hP9, va_K.moved hW.alike hK, hD9⟩, hS.F ht⟩) hS.2.2 dX2_askedBy_75
  ·
    refine lv_tableIn (tgt := 78) (off := 77) hx hb dX2_askedBy_1 (by rw [hs_1]; omega) (by rw [hs_1]; omega) (by rw [hs_1, q_2]; rfl) (by decide) ?_
    refine lv_iconst (v := (-1)) hx hb dX2_askedBy_78 (by decide) ?_
    have hu9 : ((-1) : Int32).toInt = (-1:Int) := (by decide)
    have hP9 := hP.sub (ws' := []) [] rfl
    have hD9 := hD.sub (ws' := []) [] (by decide) rfl
    have hf9_0 : ((pN_i = 115 ∨ pN_i = 107 ∨ pN_i = 103 ∨ pN_i = 110 ∨ pN_i = 112) ∧ 0 ≤ ((-1) : Int32).toInt) ∨ (¬ (pN_i = 115 ∨ pN_i = 107 ∨ pN_i = 103 ∨ pN_i = 110 ∨ pN_i = 112) ∧ ((-1) : Int32).toInt = -1) := by omega
    have hf9_1 : -1 ≤ ((-1) : Int32).toInt ∧ ((-1) : Int32).toInt ≤ 4 := by omega
    exact W.iret (v := (-1)) hx hb hr (fun t ht hW => ⟨⟨(-1), (-1), rfl, rfl, hf9_0, hf9_1, by rw [ht]; exact hP9, va_K.moved hW.alike hK, hD9⟩, hS.F ht⟩) hS.2.2 dX2_askedBy_79
  ·
    refine lv_tableIn (tgt := 76) (off := 75) hx hb dX2_askedBy_1 (by rw [hs_1]; omega) (by rw [hs_1]; omega) (by rw [hs_1, q_2]; rfl) (by decide) ?_
    refine lv_iconst (v := 4) hx hb dX2_askedBy_76 (by decide) ?_
    have hu9 : (4 : Int32).toInt = (4:Int) := (by decide)
    have hP9 := hP.sub (ws' := []) [] rfl
    have hD9 := hD.sub (ws' := []) [] (by decide) rfl
    have hf9_0 : ((pN_i = 115 ∨ pN_i = 107 ∨ pN_i = 103 ∨ pN_i = 110 ∨ pN_i = 112) ∧ 0 ≤ (4 : Int32).toInt) ∨ (¬ (pN_i = 115 ∨ pN_i = 107 ∨ pN_i = 103 ∨ pN_i = 110 ∨ pN_i = 112) ∧ (4 : Int32).toInt = -1) := by omega
    have hf9_1 : -1 ≤ (4 : Int32).toInt ∧ (4 : Int32).toInt ≤ 4 := by omega
    exact W.iret (v := 4) hx hb hr (fun t ht hW => ⟨⟨4, 4, rfl, rfl, hf9_0, hf9_1, by rw [ht]; exact hP9, va_K.moved hW.alike hK, hD9⟩, hS.F ht⟩) hS.2.2 dX2_askedBy_77
  ·
    refine lv_tableIn (tgt := 78) (off := 77) hx hb dX2_askedBy_1 (by rw [hs_1]; omega) (by rw [hs_1]; omega) (by rw [hs_1, q_2]; rfl) (by decide) ?_
    refine lv_iconst (v := (-1)) hx hb dX2_askedBy_78 (by decide) ?_
    have hu9 : ((-1) : Int32).toInt = (-1:Int) := (by decide)
    have hP9 := hP.sub (ws' := []) [] rfl
    have hD9 := hD.sub (ws' := []) [] (by decide) rfl
    have hf9_0 : ((pN_i = 115 ∨ pN_i = 107 ∨ pN_i = 103 ∨ pN_i = 110 ∨ pN_i = 112) ∧ 0 ≤ ((-1) : Int32).toInt) ∨ (¬ (pN_i = 115 ∨ pN_i = 107 ∨ pN_i = 103 ∨ pN_i = 110 ∨ pN_i = 112) ∧ ((-1) : Int32).toInt = -1) := by omega
    have hf9_1 : -1 ≤ ((-1) : Int32).toInt ∧ ((-1) : Int32).toInt ≤ 4 := by omega
    exact W.iret (v := (-1)) hx hb hr (fun t ht hW => ⟨⟨(-1), (-1), rfl, rfl, hf9_0, hf9_1, by rw [ht]; exact hP9, va_K.moved hW.alike hK, hD9⟩, hS.F ht⟩) hS.2.2 dX2_askedBy_79
  ·
    refine lv_tableIn (tgt := 78) (off := 77) hx hb dX2_askedBy_1 (by rw [hs_1]; omega) (by rw [hs_1]; omega) (by rw [hs_1, q_2]; rfl) (by decide) ?_
    refine lv_iconst (v := (-1)) hx hb dX2_askedBy_78 (by decide) ?_
    have hu9 : ((-1) : Int32).toInt = (-1:Int) := (by decide)
    have hP9 := hP.sub (ws' := []) [] rfl
    have hD9 := hD.sub (ws' := []) [] (by decide) rfl
    have hf9_0 : ((pN_i = 115 ∨ pN_i = 107 ∨ pN_i = 103 ∨ pN_i = 110 ∨ pN_i = 112) ∧ 0 ≤ ((-1) : Int32).toInt) ∨ (¬ (pN_i = 115 ∨ pN_i = 107 ∨ pN_i = 103 ∨ pN_i = 110 ∨ pN_i = 112) ∧ ((-1) : Int32).toInt = -1) := by omega
    have hf9_1 : -1 ≤ ((-1) : Int32).toInt ∧ ((-1) : Int32).toInt ≤ 4 := by omega
    exact W.iret (v := (-1)) hx hb hr (fun t ht hW => ⟨⟨(-1), (-1), rfl, rfl, hf9_0, hf9_1, by rw [ht]; exact hP9, va_K.moved hW.alike hK, hD9⟩, hS.F ht⟩) hS.2.2 dX2_askedBy_79
  ·
    refine lv_tableIn (tgt := 68) (off := 67) hx hb dX2_askedBy_1 (by rw [hs_1]; omega) (by rw [hs_1]; omega) (by rw [hs_1, q_2]; rfl) (by decide) ?_
    refine lv_iconst (v := 0) hx hb dX2_askedBy_68 (by decide) ?_
    have hu9 : (0 : Int32).toInt = (0:Int) := (by decide)
    have hP9 := hP.sub (ws' := []) [] rfl
    have hD9 := hD.sub (ws' := []) [] (by decide) rfl
    have hf9_0 : ((pN_i = 115 ∨ pN_i = 107 ∨ pN_i = 103 ∨ pN_i = 110 ∨ pN_i = 112) ∧ 0 ≤ (0 : Int32).toInt) ∨ (¬ (pN_i = 115 ∨ pN_i = 107 ∨ pN_i = 103 ∨ pN_i = 110 ∨ pN_i = 112) ∧ (0 : Int32).toInt = -1) := by omega
    have hf9_1 : -1 ≤ (0 : Int32).toInt ∧ (0 : Int32).toInt ≤ 4 := by omega
    exact W.iret (v := 0) hx hb hr (fun t ht hW => ⟨⟨0, 0, rfl, rfl, hf9_0, hf9_1, by rw [ht]; exact hP9, va_K.moved hW.alike hK, hD9⟩, hS.F ht⟩) hS.2.2 dX2_askedBy_69

set_option maxHeartbeats 8000000 in
set_option maxRecDepth 100000 in
theorem c_X2_takesLetter (l : Launch) (dC : Nat → ClassId) (dI : Nat → Nat → Nat) (cI cZ : ClassId) (sz : Nat) (h0 : Nat) (pN : Int32) (pN_i : Int) (pN_h : pN.toInt = pN_i) (v_x_awaited : Int32) (v_x_awaited_i : Int) (v_x_awaited_h : v_x_awaited.toInt = v_x_awaited_i) (B_v_x_awaited : 0 ≤ v_x_awaited_i ∧ v_x_awaited_i ≤ 7) (v_x_askedNow : Int32) (v_x_askedNow_i : Int) (v_x_askedNow_h : v_x_askedNow.toInt = v_x_askedNow_i) (B_v_x_askedNow : 0 ≤ v_x_askedNow_i ∧ v_x_askedNow_i ≤ 4) (v_x_signNow : Int32) (v_x_signNow_i : Int) (v_x_signNow_h : v_x_signNow.toInt = v_x_signNow_i) (v_x_numberNow : Int32) (v_x_numberNow_i : Int) (v_x_numberNow_h : v_x_numberNow.toInt = v_x_numberNow_i) (v_x_digitsNow : Int32) (v_x_digitsNow_i : Int) (v_x_digitsNow_h : v_x_digitsNow.toInt = v_x_digitsNow_i) (B_v_x_digitsNow : 0 ≤ v_x_digitsNow_i ∧ v_x_digitsNow_i ≤ 3) : Met l yX2_takesLetter (Cond.code yX2_takesLetter cX2_takesLetter 3 (some .boolean) :: lw_good) ({ frames := 1, cells := 0, slots := 0, locals := 20 }) (va_Pc [.ref h0, .int pN] (fun U => U.heap.size = sz ∧ va_P (dC, dI) vwCl [(h0, .inr (2, [.int v_x_awaited, .int v_x_askedNow, .int v_x_signNow, .int v_x_numberNow, .int v_x_digitsNow]))] U.heap ∧ va_K (dC, dI) vwCl [(cI, .int), (cZ, .boolean)] U ∧ va_D (fun _ => True) [(h0, .inr (2, [.int v_x_awaited, .int v_x_askedNow, .int v_x_signNow, .int v_x_numberNow, .int v_x_digitsNow]))])) (va_Qi (fun (r u : Int32) => r = u) (fun u t => ∃ (w_h0_awaited : Int32) (w_h0_askedNow : Int32), ((u = 1 ∧ ((pN_i = 115 ∨ pN_i = 107 ∨ pN_i = 103 ∨ pN_i = 110 ∨ pN_i = 112))) ∨ (u = 0 ∧ ¬ ((pN_i = 115 ∨ pN_i = 107 ∨ pN_i = 103 ∨ pN_i = 110 ∨ pN_i = 112)))) ∧ (¬ (pN_i = 115 ∨ pN_i = 107 ∨ pN_i = 103 ∨ pN_i = 110 ∨ pN_i = 112) ∨ w_h0_awaited.toInt = 2) ∧ (0 ≤ w_h0_awaited.toInt ∧ w_h0_awaited.toInt ≤ 7) ∧ (0 ≤ w_h0_askedNow.toInt ∧ w_h0_askedNow.toInt ≤ 4) ∧ va_P (dC, dI) vwCl [(h0, .inr (2, [.int w_h0_awaited, .int w_h0_askedNow, .int v_x_signNow, .int v_x_numberNow, .int v_x_digitsNow]))] t.heap ∧ va_K (dC, dI) vwCl [(cI, .int), (cZ, .boolean)] t ∧ va_D (va_A [(h0, .inr (2, [.int v_x_awaited, .int v_x_askedNow, .int v_x_signNow, .int v_x_numberNow, .int v_x_digitsNow]))] sz) [(h0, .inr (2, [.int w_h0_awaited, .int w_h0_askedNow, .int v_x_signNow, .int v_x_numberNow, .int v_x_digitsNow]))]) (va_A [(h0, .inr (2, [.int v_x_awaited, .int v_x_askedNow, .int v_x_signNow, .int v_x_numberNow, .int v_x_digitsNow]))] sz)) 0 0 (va_A [(h0, .inr (2, [.int v_x_awaited, .int v_x_askedNow, .int v_x_signNow, .int v_x_numberNow, .int v_x_digitsNow]))] sz) := by
  refine Met.ofW (cc := cX2_takesLetter) (maxL := 3) (ret := (some .boolean)) (by decide) rfl ?_
  intro p e s m args below meth c s₁ B hml hv
  obtain ⟨rfl, hsz, hP, hK, hD0⟩ := hv
  have hx := B.exec
  have hb := B.bytes
  have hr := B.returns
  have hts := atoms_spec (ws := Cond.code yX2_takesLetter cX2_takesLetter 3 (some .boolean) :: lw_good) B.pre
  have hown : s.vm.findClass RX2 = some m.cls := findClass_of_methodNamed B.named
  have hlocks := B.notSynchronized
  have hiX2 : ∀ w ∈ wsX20, w ∈ (Cond.code yX2_takesLetter cX2_takesLetter 3 (some .boolean) :: lw_good) := fun w h => List.mem_cons_of_mem _ (zi_X2 w h)
  have hw0 := hts (.initialized RX2) (List.mem_cons_of_mem _ zw_53)
  have hw1 := hts (.methodLink RX2 65 yX2_askedBy) (List.mem_cons_of_mem _ zw_462)
  have hw2 := hts (.static yX2_askedBy) (List.mem_cons_of_mem _ zw_463)
  have hw3 := hts (.fieldLink RX2 15 "BunchRace$OrderReader" "askedNow" "I") (List.mem_cons_of_mem _ zw_180)
  have hw4 := hts (.fieldLink RX2 11 "BunchRace$OrderReader" "awaited" "I") (List.mem_cons_of_mem _ zw_179)
  subst hsz
  have hD := hD0.self (sz := s.heap.size)
  generalize hAe : va_A [(h0, .inr (2, [.int v_x_awaited, .int v_x_askedNow, .int v_x_signNow, .int v_x_numberNow, .int v_x_digitsNow]))] s.heap.size = A at hD ⊢
  have hA : ∀ q : Nat, s.heap.size ≤ q → A q := fun q h => by rw [← hAe]; exact Or.inr h
  have hS : va_S A s.heap s.heap [] := va_S.rf
  have hP : va_P (dC, dI) vwCl [(h0, .inr (2, [.int v_x_awaited, .int v_x_askedNow, .int v_x_signNow, .int v_x_numberNow, .int v_x_digitsNow]))] s.heap := hP
  have hl := lv_entry ([.ref h0, .int pN]) (n := 3) (Nat.le_of_ble_eq_true rfl)
  rw [lg_entry_eq]
  generalize (lg_sl ([.ref h0, .int pN]) ++ List.replicate (3 - (lg_sl ([.ref h0, .int pN])).length) Slot.unset).toArray = ls at hl ⊢
  have hl : lv_has ls 3 [(0, .ref h0), (1, .int pN)] := hl
  refine lv_iload_n hx hb dX2_takesLetter_0 rfl (lv_at hl 1 rfl) ?_
  have hPc := hP.sub (ws' := []) [] rfl
  have hDc := hD.sub (ws' := []) [] (by decide) rfl
  have hFc := va_free (wc := []) hD hS hA [] rfl
  refine va_calli (va_runS (As := [.int pN]) (rest := []) ⟨hx, hb, hml, hown, hts⟩ (c_X2_askedBy l dC dI cI cZ (s.heap).size pN pN_i pN_h) ⟨callB_of 1 hts (zz_good zw_464) rfl rfl rfl hw0 hw1 (by decide +kernel) ⟨Nat.le_of_ble_eq_true rfl, Nat.le_of_ble_eq_true rfl⟩, hw2⟩ ⟨fun a U g mk q => by obtain ⟨q0, q1, qP, qK, qD⟩ := q; exact ⟨q0, q1, qP, va_K.moved (u := U) (U := U.calling g mk a) (Vm.Alike.refl U.vm) qK, qD⟩, fun U hU hW => ⟨rfl, by rw [hU], by rw [hU]; exact hPc, va_K.moved hW.alike hK, hDc.weaken (fun _ _ _ _ => trivial)⟩⟩ rfl rfl hl.1 rfl (lv_room (Nat.le_of_ble_eq_true rfl)) dX2_takesLetter_1 ⟨Nat.le_of_ble_eq_true rfl, Nat.le_of_ble_eq_true rfl⟩) hS (fun q _ h => hFc q h) hFc (fun r_1 u t H1 locs ht hvm hpost hB hz1 hk1 hS => ?_)
  subst hpost
  obtain ⟨hf_2, hf_3, hP1, hK1, hD1⟩ := hB
  rw [ht] at hP1
  obtain ⟨hP, hD⟩ := va_join (wr := [(h0, .inr (2, [.int v_x_awaited, .int v_x_askedNow, .int v_x_signNow, .int v_x_numberNow, .int v_x_digitsNow]))]) (w1 := []) hP hD [] [0] rfl rfl (by decide) (by decide) hk1 hFc hP1 hD1
  generalize H1 = H at hP hS ⊢
  have hP : va_P (dC, dI) vwCl [(h0, .inr (2, [.int v_x_awaited, .int v_x_askedNow, .int v_x_signNow, .int v_x_numberNow, .int v_x_digitsNow]))] H := hP
  have hD : va_D A [(h0, .inr (2, [.int v_x_awaited, .int v_x_askedNow, .int v_x_signNow, .int v_x_numberNow, .int v_x_digitsNow]))] := hD
  have hf_2 : ((pN_i = 115 ∨ pN_i = 107 ∨ pN_i = 103 ∨ pN_i = 110 ∨ pN_i = 112) ∧ 0 ≤ r_1.toInt) ∨ (¬ (pN_i = 115 ∨ pN_i = 107 ∨ pN_i = 103 ∨ pN_i = 110 ∨ pN_i = 112) ∧ r_1.toInt = -1) := hf_2
  have hf_3 : -1 ≤ r_1.toInt ∧ r_1.toInt ≤ 4 := hf_3
  refine lv_istore_n (lv' := [(2, .int r_1), (0, .ref h0), (1, .int pN)]) hx hb dX2_takesLetter_4 rfl hl (by decide) rfl (fun ls hl => ?_)
  refine lv_iload_n hx hb dX2_takesLetter_5 rfl (lv_at hl 0 rfl) ?_
  refine lv_iconst (v := (-1)) hx hb dX2_takesLetter_6 (by decide) ?_
  refine lv_icmp_ne (tgt := 12) hx hb dX2_takesLetter_7 (by decide) (fun c_4 => ?_) (fun c_4 => ?_)
  ·
    have c_4 : ¬ ((r_1).toInt = (-1:Int)) := zz_eqn rfl (by decide) c_4
    refine lv_aload_n hx hb dX2_takesLetter_12 rfl (lv_at hl 1 rfl) ?_
    refine lv_iload_n hx hb dX2_takesLetter_13 rfl (lv_at hl 0 rfl) ?_
    refine va_put (D := (dC, dI)) (ci := 2) (v := .int r_1) (ty := .int) (C := RX2) (T := TX2) (N := 5) hx hb hts hiX2 tyX2 tyX2_ok nmX2 hown hK hP hD hS 0 rfl rfl 1 (by decide) hw3 (fun _ h9 => h9) rfl (by decide +kernel) rfl rfl (Nat.le_of_ble_eq_true rfl) dX2_takesLetter_14 (fun H locs hP hD hS => ?_)
    have hP : va_P (dC, dI) vwCl [(h0, .inr (2, [.int v_x_awaited, .int r_1, .int v_x_signNow, .int v_x_numberNow, .int v_x_digitsNow]))] H := hP
    have hD : va_D A [(h0, .inr (2, [.int v_x_awaited, .int r_1, .int v_x_signNow, .int v_x_numberNow, .int v_x_digitsNow]))] := hD
    refine lv_aload_n hx hb dX2_takesLetter_17 rfl (lv_at hl 1 rfl) ?_
    refine lv_iconst (v := 2) hx hb dX2_takesLetter_18 (by decide) ?_
    refine va_put (D := (dC, dI)) (ci := 2) (v := .int 2) (ty := .int) (C := RX2) (T := TX2) (N := 5) hx hb hts hiX2 tyX2 tyX2_ok nmX2 hown hK hP hD hS 0 rfl rfl 0 (by decide) hw4 (fun _ h9 => h9) rfl (by decide +kernel) rfl rfl (Nat.le_of_ble_eq_true rfl) dX2_takesLetter_19 (fun H locs hP hD hS => ?_)
    have hP : va_P (dC, dI) vwCl [(h0, .inr (2, [.int 2, .int r_1, .int v_x_signNow, .int v_x_numberNow, .int v_x_digitsNow]))] H := hP
    have hD : va_D A [(h0, .inr (2, [.int 2, .int r_1, .int v_x_signNow, .int v_x_numberNow, .int v_x_digitsNow]))] := hD
    refine lv_iconst (v := 1) hx hb dX2_takesLetter_22 (by decide) ?_
    have hu9 : (1 : Int32).toInt = (1:Int) := (by decide)
    have hx9_w_h0_awaited : (2 : Int32).toInt = (2:Int) := (by decide)
    have hx9_w_h0_askedNow : (r_1 : Int32).toInt = (r_1).toInt := rfl
    have hP9 := hP.sub (ws' := [(h0, .inr (2, [.int 2, .int r_1, .int v_x_signNow, .int v_x_numberNow, .int v_x_digitsNow]))]) [0] rfl
    have hD9 := hD.sub (ws' := [(h0, .inr (2, [.int 2, .int r_1, .int v_x_signNow, .int v_x_numberNow, .int v_x_digitsNow]))]) [0] (by decide) rfl
    have hf9_0 : ((1 : Int32) = 1 ∧ ((pN_i = 115 ∨ pN_i = 107 ∨ pN_i = 103 ∨ pN_i = 110 ∨ pN_i = 112))) ∨ ((1 : Int32) = 0 ∧ ¬ ((pN_i = 115 ∨ pN_i = 107 ∨ pN_i = 103 ∨ pN_i = 110 ∨ pN_i = 112))) := Or.inl ⟨rfl, by omega⟩
    have hf9_1 : ¬ (pN_i = 115 ∨ pN_i = 107 ∨ pN_i = 103 ∨ pN_i = 110 ∨ pN_i = 112) ∨ (2 : Int32).toInt = 2 := by omega
    have hf9_2 : 0 ≤ (2 : Int32).toInt ∧ (2 : Int32).toInt ≤ 7 := by omega
    have hf9_3 : 0 ≤ r_1.toInt ∧ r_1.toInt ≤ 4 := by omega
    exact W.zret (v := 1) hx hb hr rfl (fun t ht hW => ⟨⟨1, 1, rfl, rfl, (2 : Int32), r_1, hf9_0, hf9_1, hf9_2, hf9_3, by rw [ht]; exact hP9, va_K.moved hW.alike hK, hD9⟩, hS.F ht⟩) hS.2.2 dX2_takesLetter_23
  ·
    have c_4 : (r_1).toInt = (-1:Int) := zz_eq rfl (by decide) c_4
    refine lv_iconst (v := 0) hx hb dX2_takesLetter_10 (by decide) ?_
    have hu9 : (0 : Int32).toInt = (0:Int) := (by decide)
    have hx9_w_h0_awaited : (v_x_awaited : Int32).toInt = v_x_awaited_i := v_x_awaited_h
    have hx9_w_h0_askedNow : (v_x_askedNow : Int32).toInt = v_x_askedNow_i := v_x_askedNow_h
    have hP9 := hP.sub (ws' := [(h0, .inr (2, [.int v_x_awaited, .int v_x_askedNow, .int v_x_signNow, .int v_x_numberNow, .int v_x_digitsNow]))]) [0] rfl
    have hD9 := hD.sub (ws' := [(h0, .inr (2, [.int v_x_awaited, .int v_x_askedNow, .int v_x_signNow, .int v_x_numberNow, .int v_x_digitsNow]))]) [0] (by decide) rfl
    have hf9_0 : ((0 : Int32) = 1 ∧ ((pN_i = 115 ∨ pN_i = 107 ∨ pN_i = 103 ∨ pN_i = 110 ∨ pN_i = 112))) ∨ ((0 : Int32) = 0 ∧ ¬ ((pN_i = 115 ∨ pN_i = 107 ∨ pN_i = 103 ∨ pN_i = 110 ∨ pN_i = 112))) := Or.inr ⟨rfl, by omega⟩
    have hf9_1 : ¬ (pN_i = 115 ∨ pN_i = 107 ∨ pN_i = 103 ∨ pN_i = 110 ∨ pN_i = 112) ∨ v_x_awaited.toInt = 2 := by omega
    have hf9_2 : 0 ≤ v_x_awaited.toInt ∧ v_x_awaited.toInt ≤ 7 := by omega
    have hf9_3 : 0 ≤ v_x_askedNow.toInt ∧ v_x_askedNow.toInt ≤ 4 := by omega
    exact W.zret (v := 0) hx hb hr rfl (fun t ht hW => ⟨⟨0, 0, rfl, rfl, v_x_awaited, v_x_askedNow, hf9_0, hf9_1, hf9_2, hf9_3, by rw [ht]; exact hP9, va_K.moved hW.alike hK, hD9⟩, hS.F ht⟩) hS.2.2 dX2_takesLetter_11

set_option maxHeartbeats 8000000 in
set_option maxRecDepth 100000 in
theorem c_X2_takesSign (l : Launch) (dC : Nat → ClassId) (dI : Nat → Nat → Nat) (cI cZ : ClassId) (sz : Nat) (h0 : Nat) (pN : Int32) (pN_i : Int) (pN_h : pN.toInt = pN_i) (v_x_awaited : Int32) (v_x_awaited_i : Int) (v_x_awaited_h : v_x_awaited.toInt = v_x_awaited_i) (B_v_x_awaited : 0 ≤ v_x_awaited_i ∧ v_x_awaited_i ≤ 7) (v_x_askedNow : Int32) (v_x_askedNow_i : Int) (v_x_askedNow_h : v_x_askedNow.toInt = v_x_askedNow_i) (B_v_x_askedNow : 0 ≤ v_x_askedNow_i ∧ v_x_askedNow_i ≤ 4) (v_x_signNow : Int32) (v_x_signNow_i : Int) (v_x_signNow_h : v_x_signNow.toInt = v_x_signNow_i) (v_x_numberNow : Int32) (v_x_numberNow_i : Int) (v_x_numberNow_h : v_x_numberNow.toInt = v_x_numberNow_i) (v_x_digitsNow : Int32) (v_x_digitsNow_i : Int) (v_x_digitsNow_h : v_x_digitsNow.toInt = v_x_digitsNow_i) (B_v_x_digitsNow : 0 ≤ v_x_digitsNow_i ∧ v_x_digitsNow_i ≤ 3) : Met l yX2_takesSign (Cond.code yX2_takesSign cX2_takesSign 2 (some .boolean) :: lw_good) ({ frames := 0, cells := 0, slots := 0, locals := 0 }) (va_Pc [.ref h0, .int pN] (fun U => U.heap.size = sz ∧ va_P (dC, dI) vwCl [(h0, .inr (2, [.int v_x_awaited, .int v_x_askedNow, .int v_x_signNow, .int v_x_numberNow, .int v_x_digitsNow]))] U.heap ∧ va_K (dC, dI) vwCl [(cI, .int), (cZ, .boolean)] U ∧ va_D (fun _ => True) [(h0, .inr (2, [.int v_x_awaited, .int v_x_askedNow, .int v_x_signNow, .int v_x_numberNow, .int v_x_digitsNow]))])) (va_Qi (fun (r u : Int32) => r = u) (fun u t => ∃ (w_h0_awaited : Int32) (w_h0_signNow : Int32), ((u = 1 ∧ ((pN_i = 61 ∨ pN_i = 60 ∨ pN_i = 62))) ∨ (u = 0 ∧ ¬ ((pN_i = 61 ∨ pN_i = 60 ∨ pN_i = 62)))) ∧ (¬ (pN_i = 61 ∨ pN_i = 60 ∨ pN_i = 62) ∨ w_h0_awaited.toInt = 3) ∧ (0 ≤ w_h0_awaited.toInt ∧ w_h0_awaited.toInt ≤ 7) ∧ va_P (dC, dI) vwCl [(h0, .inr (2, [.int w_h0_awaited, .int v_x_askedNow, .int w_h0_signNow, .int v_x_numberNow, .int v_x_digitsNow]))] t.heap ∧ va_K (dC, dI) vwCl [(cI, .int), (cZ, .boolean)] t ∧ va_D (va_A [(h0, .inr (2, [.int v_x_awaited, .int v_x_askedNow, .int v_x_signNow, .int v_x_numberNow, .int v_x_digitsNow]))] sz) [(h0, .inr (2, [.int w_h0_awaited, .int v_x_askedNow, .int w_h0_signNow, .int v_x_numberNow, .int v_x_digitsNow]))]) (va_A [(h0, .inr (2, [.int v_x_awaited, .int v_x_askedNow, .int v_x_signNow, .int v_x_numberNow, .int v_x_digitsNow]))] sz)) 0 0 (va_A [(h0, .inr (2, [.int v_x_awaited, .int v_x_askedNow, .int v_x_signNow, .int v_x_numberNow, .int v_x_digitsNow]))] sz) := by
  refine Met.ofW (cc := cX2_takesSign) (maxL := 2) (ret := (some .boolean)) (by decide) rfl ?_
  intro p e s m args below meth c s₁ B hml hv
  obtain ⟨rfl, hsz, hP, hK, hD0⟩ := hv
  have hx := B.exec
  have hb := B.bytes
  have hr := B.returns
  have hts := atoms_spec (ws := Cond.code yX2_takesSign cX2_takesSign 2 (some .boolean) :: lw_good) B.pre
  have hown : s.vm.findClass RX2 = some m.cls := findClass_of_methodNamed B.named
  have hlocks := B.notSynchronized
  have hiX2 : ∀ w ∈ wsX20, w ∈ (Cond.code yX2_takesSign cX2_takesSign 2 (some .boolean) :: lw_good) := fun w h => List.mem_cons_of_mem _ (zi_X2 w h)
  have hw0 := hts (.fieldLink RX2 18 "BunchRace$OrderReader" "signNow" "I") (List.mem_cons_of_mem _ zw_181)
  have hw1 := hts (.fieldLink RX2 11 "BunchRace$OrderReader" "awaited" "I") (List.mem_cons_of_mem _ zw_179)
  subst hsz
  have hD := hD0.self (sz := s.heap.size)
  generalize hAe : va_A [(h0, .inr (2, [.int v_x_awaited, .int v_x_askedNow, .int v_x_signNow, .int v_x_numberNow, .int v_x_digitsNow]))] s.heap.size = A at hD ⊢
  have hA : ∀ q : Nat, s.heap.size ≤ q → A q := fun q h => by rw [← hAe]; exact Or.inr h
  have hS : va_S A s.heap s.heap [] := va_S.rf
  have hP : va_P (dC, dI) vwCl [(h0, .inr (2, [.int v_x_awaited, .int v_x_askedNow, .int v_x_signNow, .int v_x_numberNow, .int v_x_digitsNow]))] s.heap := hP
  have hl := lv_entry ([.ref h0, .int pN]) (n := 2) (Nat.le_of_ble_eq_true rfl)
  rw [lg_entry_eq]
  generalize (lg_sl ([.ref h0, .int pN]) ++ List.replicate (2 - (lg_sl ([.ref h0, .int pN])).length) Slot.unset).toArray = ls at hl ⊢
  have hl : lv_has ls 2 [(0, .ref h0), (1, .int pN)] := hl
  refine lv_iload_n hx hb dX2_takesSign_0 rfl (lv_at hl 1 rfl) ?_
  refine lv_bipush (v := 61) hx hb dX2_takesSign_1 (by decide) ?_
  refine lv_icmp_eq (tgt := 20) hx hb dX2_takesSign_3 (by decide) (fun c_1 => ?_) (fun c_1 => ?_)
  ·
    have c_1 : pN_i = (61:Int) := zz_eq pN_h (by decide) c_1
    refine lv_aload_n hx hb dX2_takesSign_20 rfl (lv_at hl 0 rfl) ?_
    refine lv_iload_n hx hb dX2_takesSign_21 rfl (lv_at hl 1 rfl) ?_
    refine va_put (D := (dC, dI)) (ci := 2) (v := .int pN) (ty := .int) (C := RX2) (T := TX2) (N := 5) hx hb hts hiX2 tyX2 tyX2_ok nmX2 hown hK hP hD hS 0 rfl rfl 2 (by decide) hw0 (fun _ h9 => h9) rfl (by decide +kernel) rfl rfl (Nat.le_of_ble_eq_true rfl) dX2_takesSign_22 (fun H locs hP hD hS => ?_)
    have hP : va_P (dC, dI) vwCl [(h0, .inr (2, [.int v_x_awaited, .int v_x_askedNow, .int pN, .int v_x_numberNow, .int v_x_digitsNow]))] H := hP
    have hD : va_D A [(h0, .inr (2, [.int v_x_awaited, .int v_x_askedNow, .int pN, .int v_x_numberNow, .int v_x_digitsNow]))] := hD
    refine lv_aload_n hx hb dX2_takesSign_25 rfl (lv_at hl 0 rfl) ?_
    refine lv_iconst (v := 3) hx hb dX2_takesSign_26 (by decide) ?_
    refine va_put (D := (dC, dI)) (ci := 2) (v := .int 3) (ty := .int) (C := RX2) (T := TX2) (N := 5) hx hb hts hiX2 tyX2 tyX2_ok nmX2 hown hK hP hD hS 0 rfl rfl 0 (by decide) hw1 (fun _ h9 => h9) rfl (by decide +kernel) rfl rfl (Nat.le_of_ble_eq_true rfl) dX2_takesSign_27 (fun H locs hP hD hS => ?_)
    have hP : va_P (dC, dI) vwCl [(h0, .inr (2, [.int 3, .int v_x_askedNow, .int pN, .int v_x_numberNow, .int v_x_digitsNow]))] H := hP
    have hD : va_D A [(h0, .inr (2, [.int 3, .int v_x_askedNow, .int pN, .int v_x_numberNow, .int v_x_digitsNow]))] := hD
    refine lv_iconst (v := 1) hx hb dX2_takesSign_30 (by decide) ?_
    have hu9 : (1 : Int32).toInt = (1:Int) := (by decide)
    have hx9_w_h0_awaited : (3 : Int32).toInt = (3:Int) := (by decide)
    have hx9_w_h0_signNow : (pN : Int32).toInt = pN_i := pN_h
    have hP9 := hP.sub (ws' := [(h0, .inr (2, [.int 3, .int v_x_askedNow, .int pN, .int v_x_numberNow, .int v_x_digitsNow]))]) [0] rfl
    have hD9 := hD.sub (ws' := [(h0, .inr (2, [.int 3, .int v_x_askedNow, .int pN, .int v_x_numberNow, .int v_x_digitsNow]))]) [0] (by decide) rfl
    have hf9_0 : ((1 : Int32) = 1 ∧ ((pN_i = 61 ∨ pN_i = 60 ∨ pN_i = 62))) ∨ ((1 : Int32) = 0 ∧ ¬ ((pN_i = 61 ∨ pN_i = 60 ∨ pN_i = 62))) := Or.inl ⟨rfl, by omega⟩
    have hf9_1 : ¬ (pN_i = 61 ∨ pN_i = 60 ∨ pN_i = 62) ∨ (3 : Int32).toInt = 3 := by omega
    have hf9_2 : 0 ≤ (3 : Int32).toInt ∧ (3 : Int32).toInt ≤ 7 := by omega
    exact W.zret (v := 1) hx hb hr rfl (fun t ht hW => ⟨⟨1, 1, rfl, rfl, (3 : Int32), pN, hf9_0, hf9_1, hf9_2, by rw [ht]; exact hP9, va_K.moved hW.alike hK, hD9⟩, hS.F ht⟩) hS.2.2 dX2_takesSign_31
  ·
    have c_1 : ¬ (pN_i = (61:Int)) := zz_eqn pN_h (by decide) c_1
    refine lv_iload_n hx hb dX2_takesSign_6 rfl (lv_at hl 1 rfl) ?_
    refine lv_bipush (v := 60) hx hb dX2_takesSign_7 (by decide) ?_
    refine lv_icmp_eq (tgt := 20) hx hb dX2_takesSign_9 (by decide) (fun c_2 => ?_) (fun c_2 => ?_)
    ·
      have c_2 : pN_i = (60:Int) := zz_eq pN_h (by decide) c_2
      refine lv_aload_n hx hb dX2_takesSign_20 rfl (lv_at hl 0 rfl) ?_
      refine lv_iload_n hx hb dX2_takesSign_21 rfl (lv_at hl 1 rfl) ?_
      refine va_put (D := (dC, dI)) (ci := 2) (v := .int pN) (ty := .int) (C := RX2) (T := TX2) (N := 5) hx hb hts hiX2 tyX2 tyX2_ok nmX2 hown hK hP hD hS 0 rfl rfl 2 (by decide) hw0 (fun _ h9 => h9) rfl (by decide +kernel) rfl rfl (Nat.le_of_ble_eq_true rfl) dX2_takesSign_22 (fun H locs hP hD hS => ?_)
      have hP : va_P (dC, dI) vwCl [(h0, .inr (2, [.int v_x_awaited, .int v_x_askedNow, .int pN, .int v_x_numberNow, .int v_x_digitsNow]))] H := hP
      have hD : va_D A [(h0, .inr (2, [.int v_x_awaited, .int v_x_askedNow, .int pN, .int v_x_numberNow, .int v_x_digitsNow]))] := hD
      refine lv_aload_n hx hb dX2_takesSign_25 rfl (lv_at hl 0 rfl) ?_
      refine lv_iconst (v := 3) hx hb dX2_takesSign_26 (by decide) ?_
      refine va_put (D := (dC, dI)) (ci := 2) (v := .int 3) (ty := .int) (C := RX2) (T := TX2) (N := 5) hx hb hts hiX2 tyX2 tyX2_ok nmX2 hown hK hP hD hS 0 rfl rfl 0 (by decide) hw1 (fun _ h9 => h9) rfl (by decide +kernel) rfl rfl (Nat.le_of_ble_eq_true rfl) dX2_takesSign_27 (fun H locs hP hD hS => ?_)
      have hP : va_P (dC, dI) vwCl [(h0, .inr (2, [.int 3, .int v_x_askedNow, .int pN, .int v_x_numberNow, .int v_x_digitsNow]))] H := hP
      have hD : va_D A [(h0, .inr (2, [.int 3, .int v_x_askedNow, .int pN, .int v_x_numberNow, .int v_x_digitsNow]))] := hD
      refine lv_iconst (v := 1) hx hb dX2_takesSign_30 (by decide) ?_
      have hu9 : (1 : Int32).toInt = (1:Int) := (by decide)
      have hx9_w_h0_awaited : (3 : Int32).toInt = (3:Int) := (by decide)
      have hx9_w_h0_signNow : (pN : Int32).toInt = pN_i := pN_h
      have hP9 := hP.sub (ws' := [(h0, .inr (2, [.int 3, .int v_x_askedNow, .int pN, .int v_x_numberNow, .int v_x_digitsNow]))]) [0] rfl
      have hD9 := hD.sub (ws' := [(h0, .inr (2, [.int 3, .int v_x_askedNow, .int pN, .int v_x_numberNow, .int v_x_digitsNow]))]) [0] (by decide) rfl
      have hf9_0 : ((1 : Int32) = 1 ∧ ((pN_i = 61 ∨ pN_i = 60 ∨ pN_i = 62))) ∨ ((1 : Int32) = 0 ∧ ¬ ((pN_i = 61 ∨ pN_i = 60 ∨ pN_i = 62))) := Or.inl ⟨rfl, by omega⟩
      have hf9_1 : ¬ (pN_i = 61 ∨ pN_i = 60 ∨ pN_i = 62) ∨ (3 : Int32).toInt = 3 := by omega
      have hf9_2 : 0 ≤ (3 : Int32).toInt ∧ (3 : Int32).toInt ≤ 7 := by omega
      exact W.zret (v := 1) hx hb hr rfl (fun t ht hW => ⟨⟨1, 1, rfl, rfl, (3 : Int32), pN, hf9_0, hf9_1, hf9_2, by rw [ht]; exact hP9, va_K.moved hW.alike hK, hD9⟩, hS.F ht⟩) hS.2.2 dX2_takesSign_31
    ·
      have c_2 : ¬ (pN_i = (60:Int)) := zz_eqn pN_h (by decide) c_2
      refine lv_iload_n hx hb dX2_takesSign_12 rfl (lv_at hl 1 rfl) ?_
      refine lv_bipush (v := 62) hx hb dX2_takesSign_13 (by decide) ?_
      refine lv_icmp_eq (tgt := 20) hx hb dX2_takesSign_15 (by decide) (fun c_3 => ?_) (fun c_3 => ?_)
      ·
        have c_3 : pN_i = (62:Int) := zz_eq pN_h (by decide) c_3
        refine lv_aload_n hx hb dX2_takesSign_20 rfl (lv_at hl 0 rfl) ?_
        refine lv_iload_n hx hb dX2_takesSign_21 rfl (lv_at hl 1 rfl) ?_
        refine va_put (D := (dC, dI)) (ci := 2) (v := .int pN) (ty := .int) (C := RX2) (T := TX2) (N := 5) hx hb hts hiX2 tyX2 tyX2_ok nmX2 hown hK hP hD hS 0 rfl rfl 2 (by decide) hw0 (fun _ h9 => h9) rfl (by decide +kernel) rfl rfl (Nat.le_of_ble_eq_true rfl) dX2_takesSign_22 (fun H locs hP hD hS => ?_)
        have hP : va_P (dC, dI) vwCl [(h0, .inr (2, [.int v_x_awaited, .int v_x_askedNow, .int pN, .int v_x_numberNow, .int v_x_digitsNow]))] H := hP
        have hD : va_D A [(h0, .inr (2, [.int v_x_awaited, .int v_x_askedNow, .int pN, .int v_x_numberNow, .int v_x_digitsNow]))] := hD
        refine lv_aload_n hx hb dX2_takesSign_25 rfl (lv_at hl 0 rfl) ?_
        refine lv_iconst (v := 3) hx hb dX2_takesSign_26 (by decide) ?_
        refine va_put (D := (dC, dI)) (ci := 2) (v := .int 3) (ty := .int) (C := RX2) (T := TX2) (N := 5) hx hb hts hiX2 tyX2 tyX2_ok nmX2 hown hK hP hD hS 0 rfl rfl 0 (by decide) hw1 (fun _ h9 => h9) rfl (by decide +kernel) rfl rfl (Nat.le_of_ble_eq_true rfl) dX2_takesSign_27 (fun H locs hP hD hS => ?_)
        have hP : va_P (dC, dI) vwCl [(h0, .inr (2, [.int 3, .int v_x_askedNow, .int pN, .int v_x_numberNow, .int v_x_digitsNow]))] H := hP
        have hD : va_D A [(h0, .inr (2, [.int 3, .int v_x_askedNow, .int pN, .int v_x_numberNow, .int v_x_digitsNow]))] := hD
        refine lv_iconst (v := 1) hx hb dX2_takesSign_30 (by decide) ?_
        have hu9 : (1 : Int32).toInt = (1:Int) := (by decide)
        have hx9_w_h0_awaited : (3 : Int32).toInt = (3:Int) := (by decide)
        have hx9_w_h0_signNow : (pN : Int32).toInt = pN_i := pN_h
        have hP9 := hP.sub (ws' := [(h0, .inr (2, [.int 3, .int v_x_askedNow, .int pN, .int v_x_numberNow, .int v_x_digitsNow]))]) [0] rfl
        have hD9 := hD.sub (ws' := [(h0, .inr (2, [.int 3, .int v_x_askedNow, .int pN, .int v_x_numberNow, .int v_x_digitsNow]))]) [0] (by decide) rfl
        have hf9_0 : ((1 : Int32) = 1 ∧ ((pN_i = 61 ∨ pN_i = 60 ∨ pN_i = 62))) ∨ ((1 : Int32) = 0 ∧ ¬ ((pN_i = 61 ∨ pN_i = 60 ∨ pN_i = 62))) := Or.inl ⟨rfl, by omega⟩
        have hf9_1 : ¬ (pN_i = 61 ∨ pN_i = 60 ∨ pN_i = 62) ∨ (3 : Int32).toInt = 3 := by omega
        have hf9_2 : 0 ≤ (3 : Int32).toInt ∧ (3 : Int32).toInt ≤ 7 := by omega
        exact W.zret (v := 1) hx hb hr rfl (fun t ht hW => ⟨⟨1, 1, rfl, rfl, (3 : Int32), pN, hf9_0, hf9_1, hf9_2, by rw [ht]; exact hP9, va_K.moved hW.alike hK, hD9⟩, hS.F ht⟩) hS.2.2 dX2_takesSign_31
      ·
        have c_3 : ¬ (pN_i = (62:Int)) := zz_eqn pN_h (by decide) c_3
        refine lv_iconst (v := 0) hx hb dX2_takesSign_18 (by decide) ?_
        have hu9 : (0 : Int32).toInt = (0:Int) := (by decide)
        have hx9_w_h0_awaited : (v_x_awaited : Int32).toInt = v_x_awaited_i := v_x_awaited_h
        have hx9_w_h0_signNow : (v_x_signNow : Int32).toInt = v_x_signNow_i := v_x_signNow_h
        have hP9 := hP.sub (ws' := [(h0, .inr (2, [.int v_x_awaited, .int v_x_askedNow, .int v_x_signNow, .int v_x_numberNow, .int v_x_digitsNow]))]) [0] rfl
        have hD9 := hD.sub (ws' := [(h0, .inr (2, [.int v_x_awaited, .int v_x_askedNow, .int v_x_signNow, .int v_x_numberNow, .int v_x_digitsNow]))]) [0] (by decide) rfl
        have hf9_0 : ((0 : Int32) = 1 ∧ ((pN_i = 61 ∨ pN_i = 60 ∨ pN_i = 62))) ∨ ((0 : Int32) = 0 ∧ ¬ ((pN_i = 61 ∨ pN_i = 60 ∨ pN_i = 62))) := Or.inr ⟨rfl, by omega⟩
        have hf9_1 : ¬ (pN_i = 61 ∨ pN_i = 60 ∨ pN_i = 62) ∨ v_x_awaited.toInt = 3 := by omega
        have hf9_2 : 0 ≤ v_x_awaited.toInt ∧ v_x_awaited.toInt ≤ 7 := by omega
        exact W.zret (v := 0) hx hb hr rfl (fun t ht hW => ⟨⟨0, 0, rfl, rfl, v_x_awaited, v_x_signNow, hf9_0, hf9_1, hf9_2, by rw [ht]; exact hP9, va_K.moved hW.alike hK, hD9⟩, hS.F ht⟩) hS.2.2 dX2_takesSign_19

set_option maxHeartbeats 8000000 in
set_option maxRecDepth 100000 in
theorem c_X2_takesDigit (l : Launch) (dC : Nat → ClassId) (dI : Nat → Nat → Nat) (cI cZ : ClassId) (sz : Nat) (h0 : Nat) (pN : Int32) (pN_i : Int) (pN_h : pN.toInt = pN_i) (v_x_awaited : Int32) (v_x_awaited_i : Int) (v_x_awaited_h : v_x_awaited.toInt = v_x_awaited_i) (B_v_x_awaited : 0 ≤ v_x_awaited_i ∧ v_x_awaited_i ≤ 7) (v_x_askedNow : Int32) (v_x_askedNow_i : Int) (v_x_askedNow_h : v_x_askedNow.toInt = v_x_askedNow_i) (B_v_x_askedNow : 0 ≤ v_x_askedNow_i ∧ v_x_askedNow_i ≤ 4) (v_x_signNow : Int32) (v_x_signNow_i : Int) (v_x_signNow_h : v_x_signNow.toInt = v_x_signNow_i) (v_x_numberNow : Int32) (v_x_numberNow_i : Int) (v_x_numberNow_h : v_x_numberNow.toInt = v_x_numberNow_i) (v_x_digitsNow : Int32) (v_x_digitsNow_i : Int) (v_x_digitsNow_h : v_x_digitsNow.toInt = v_x_digitsNow_i) (B_v_x_digitsNow : 0 ≤ v_x_digitsNow_i ∧ v_x_digitsNow_i ≤ 3) : Met l yX2_takesDigit (Cond.code yX2_takesDigit cX2_takesDigit 2 (some .boolean) :: lw_good) ({ frames := 1, cells := 0, slots := 0, locals := 20 }) (va_Pc [.ref h0, .int pN] (fun U => U.heap.size = sz ∧ va_P (dC, dI) vwCl [(h0, .inr (2, [.int v_x_awaited, .int v_x_askedNow, .int v_x_signNow, .int v_x_numberNow, .int v_x_digitsNow]))] U.heap ∧ va_K (dC, dI) vwCl [(cI, .int), (cZ, .boolean)] U ∧ va_D (fun _ => True) [(h0, .inr (2, [.int v_x_awaited, .int v_x_askedNow, .int v_x_signNow, .int v_x_numberNow, .int v_x_digitsNow]))])) (va_Qi (fun (r u : Int32) => r = u) (fun u t => ∃ (w_h0_awaited : Int32) (w_h0_numberNow : Int32) (w_h0_digitsNow : Int32), ((u = 1 ∧ ((48 ≤ pN_i ∧ pN_i ≤ 57 ∧ v_x_digitsNow_i < 3))) ∨ (u = 0 ∧ ¬ ((48 ≤ pN_i ∧ pN_i ≤ 57 ∧ v_x_digitsNow_i < 3)))) ∧ (¬ (48 ≤ pN_i ∧ pN_i ≤ 57 ∧ v_x_digitsNow_i < 3) ∨ (w_h0_awaited.toInt = 4 ∧ w_h0_digitsNow.toInt = v_x_digitsNow_i + 1)) ∧ (0 ≤ w_h0_awaited.toInt ∧ w_h0_awaited.toInt ≤ 7) ∧ (0 ≤ w_h0_digitsNow.toInt ∧ w_h0_digitsNow.toInt ≤ 3) ∧ va_P (dC, dI) vwCl [(h0, .inr (2, [.int w_h0_awaited, .int v_x_askedNow, .int v_x_signNow, .int w_h0_numberNow, .int w_h0_digitsNow]))] t.heap ∧ va_K (dC, dI) vwCl [(cI, .int), (cZ, .boolean)] t ∧ va_D (va_A [(h0, .inr (2, [.int v_x_awaited, .int v_x_askedNow, .int v_x_signNow, .int v_x_numberNow, .int v_x_digitsNow]))] sz) [(h0, .inr (2, [.int w_h0_awaited, .int v_x_askedNow, .int v_x_signNow, .int w_h0_numberNow, .int w_h0_digitsNow]))]) (va_A [(h0, .inr (2, [.int v_x_awaited, .int v_x_askedNow, .int v_x_signNow, .int v_x_numberNow, .int v_x_digitsNow]))] sz)) 0 0 (va_A [(h0, .inr (2, [.int v_x_awaited, .int v_x_askedNow, .int v_x_signNow, .int v_x_numberNow, .int v_x_digitsNow]))] sz) := by
  refine Met.ofW (cc := cX2_takesDigit) (maxL := 2) (ret := (some .boolean)) (by decide) rfl ?_
  intro p e s m args below meth c s₁ B hml hv
  obtain ⟨rfl, hsz, hP, hK, hD0⟩ := hv
  have hx := B.exec
  have hb := B.bytes
  have hr := B.returns
  have hts := atoms_spec (ws := Cond.code yX2_takesDigit cX2_takesDigit 2 (some .boolean) :: lw_good) B.pre
  have hown : s.vm.findClass RX2 = some m.cls := findClass_of_methodNamed B.named
  have hlocks := B.notSynchronized
  have hiX2 : ∀ w ∈ wsX20, w ∈ (Cond.code yX2_takesDigit cX2_takesDigit 2 (some .boolean) :: lw_good) := fun w h => List.mem_cons_of_mem _ (zi_X2 w h)
  have hw0 := hts (.initialized RX2) (List.mem_cons_of_mem _ zw_53)
  have hw1 := hts (.methodLink RX2 69 yX2_isDigit) (List.mem_cons_of_mem _ zw_477)
  have hw2 := hts (.static yX2_isDigit) (List.mem_cons_of_mem _ zw_478)
  have hw3 := hts (.fieldLink RX2 24 "BunchRace$OrderReader" "digitsNow" "I") (List.mem_cons_of_mem _ zw_183)
  have hw4 := hts (.fieldLink RX2 21 "BunchRace$OrderReader" "numberNow" "I") (List.mem_cons_of_mem _ zw_182)
  have hw5 := hts (.fieldLink RX2 11 "BunchRace$OrderReader" "awaited" "I") (List.mem_cons_of_mem _ zw_179)
  subst hsz
  have hD := hD0.self (sz := s.heap.size)
  generalize hAe : va_A [(h0, .inr (2, [.int v_x_awaited, .int v_x_askedNow, .int v_x_signNow, .int v_x_numberNow, .int v_x_digitsNow]))] s.heap.size = A at hD ⊢
  have hA : ∀ q : Nat, s.heap.size ≤ q → A q := fun q h => by rw [← hAe]; exact Or.inr h
  have hS : va_S A s.heap s.heap [] := va_S.rf
  have hP : va_P (dC, dI) vwCl [(h0, .inr (2, [.int v_x_awaited, .int v_x_askedNow, .int v_x_signNow, .int v_x_numberNow, .int v_x_digitsNow]))] s.heap := hP
  have hl := lv_entry ([.ref h0, .int pN]) (n := 2) (Nat.le_of_ble_eq_true rfl)
  rw [lg_entry_eq]
  generalize (lg_sl ([.ref h0, .int pN]) ++ List.replicate (2 - (lg_sl ([.ref h0, .int pN])).length) Slot.unset).toArray = ls at hl ⊢
  have hl : lv_has ls 2 [(0, .ref h0), (1, .int pN)] := hl
  refine lv_iload_n hx hb dX2_takesDigit_0 rfl (lv_at hl 1 rfl) ?_
  have hPc := hP.sub (ws' := []) [] rfl
  have hDc := hD.sub (ws' := []) [] (by decide) rfl
  have hFc := va_free (wc := []) hD hS hA [] rfl
  refine va_calli (va_runS (As := [.int pN]) (rest := []) ⟨hx, hb, hml, hown, hts⟩ (c_X2_isDigit l dC dI cI cZ (s.heap).size pN pN_i pN_h) ⟨callB_of 1 hts (zz_good zw_479) rfl rfl rfl hw0 hw1 (by decide +kernel) ⟨Nat.le_of_ble_eq_true rfl, Nat.le_of_ble_eq_true rfl⟩, hw2⟩ ⟨fun a U g mk q => by obtain ⟨q0, q1, qP, qK, qD⟩ := q; exact ⟨q0, q1, qP, va_K.moved (u := U) (U := U.calling g mk a) (Vm.Alike.refl U.vm) qK, qD⟩, fun U hU hW => ⟨rfl, by rw [hU], by rw [hU]; exact hPc, va_K.moved hW.alike hK, hDc.weaken (fun _ _ _ _ => trivial)⟩⟩ rfl rfl hl.1 rfl (lv_room (Nat.le_of_ble_eq_true rfl)) dX2_takesDigit_1 ⟨Nat.le_of_ble_eq_true rfl, Nat.le_of_ble_eq_true rfl⟩) hS (fun q _ h => hFc q h) hFc (fun r_1 u t H1 locs ht hvm hpost hB hz1 hk1 hS => ?_)
  subst hpost
  obtain ⟨hf_2, hP1, hK1, hD1⟩ := hB
  rw [ht] at hP1
  obtain ⟨hP, hD⟩ := va_join (wr := [(h0, .inr (2, [.int v_x_awaited, .int v_x_askedNow, .int v_x_signNow, .int v_x_numberNow, .int v_x_digitsNow]))]) (w1 := []) hP hD [] [0] rfl rfl (by decide) (by decide) hk1 hFc hP1 hD1
  generalize H1 = H at hP hS ⊢
  have hP : va_P (dC, dI) vwCl [(h0, .inr (2, [.int v_x_awaited, .int v_x_askedNow, .int v_x_signNow, .int v_x_numberNow, .int v_x_digitsNow]))] H := hP
  have hD : va_D A [(h0, .inr (2, [.int v_x_awaited, .int v_x_askedNow, .int v_x_signNow, .int v_x_numberNow, .int v_x_digitsNow]))] := hD
  have hf_2 : (r_1 = 1 ∧ (48 ≤ pN_i ∧ pN_i ≤ 57)) ∨ (r_1 = 0 ∧ ¬ (48 ≤ pN_i ∧ pN_i ≤ 57)) := hf_2
  rcases hf_2 with ⟨rfl, hf_2⟩ | ⟨rfl, hf_2⟩
  ·
    refine lv_if_eq (tgt := 15) hx hb dX2_takesDigit_4 (by decide) (fun c_3 => ?_) (fun c_3 => ?_)
    ·
      exact absurd c_3 (by decide)
    ·
      refine lv_aload_n hx hb dX2_takesDigit_7 rfl (lv_at hl 0 rfl) ?_
      refine va_get (D := (dC, dI)) (ci := 2) (v := .int v_x_digitsNow) (C := RX2) (T := TX2) (N := 5) hx hb hts hiX2 hown hK hP 0 rfl rfl 4 (by decide) hw3 (fun _ h9 => h9) rfl dX2_takesDigit_8 ?_
      refine lv_iconst (v := 3) hx hb dX2_takesDigit_11 (by decide) ?_
      refine lv_icmp_lt (tgt := 17) hx hb dX2_takesDigit_12 (by decide) (fun c_4 => ?_) (fun c_4 => ?_)
      ·
        have c_4 : v_x_digitsNow_i < (3:Int) := zz_lt v_x_digitsNow_h (by decide) c_4
        refine lv_aload_n hx hb dX2_takesDigit_17 rfl (lv_at hl 0 rfl) ?_
        refine lv_bipush (v := 10) hx hb dX2_takesDigit_18 (by decide) ?_
        refine lv_aload_n hx hb dX2_takesDigit_20 rfl (lv_at hl 0 rfl) ?_
        refine va_get (D := (dC, dI)) (ci := 2) (v := .int v_x_numberNow) (C := RX2) (T := TX2) (N := 5) hx hb hts hiX2 hown hK hP 0 rfl rfl 3 (by decide) hw4 (fun _ h9 => h9) rfl dX2_takesDigit_21 ?_
        refine lv_imul hx hb dX2_takesDigit_24 ?_
        refine lv_topi (fun v_5 _ => ?_)
        refine lv_iload_n hx hb dX2_takesDigit_25 rfl (lv_at hl 1 rfl) ?_
        refine lv_iadd hx hb dX2_takesDigit_26 ?_
        refine lv_topi (fun v_6 _ => ?_)
        refine lv_bipush (v := 48) hx hb dX2_takesDigit_27 (by decide) ?_
        refine lv_isub hx hb dX2_takesDigit_29 ?_
        refine lv_topi (fun v_7 _ => ?_)
        refine va_put (D := (dC, dI)) (ci := 2) (v := .int v_7) (ty := .int) (C := RX2) (T := TX2) (N := 5) hx hb hts hiX2 tyX2 tyX2_ok nmX2 hown hK hP hD hS 0 rfl rfl 3 (by decide) hw4 (fun _ h9 => h9) rfl (by decide +kernel) rfl rfl (Nat.le_of_ble_eq_true rfl) dX2_takesDigit_30 (fun H locs hP hD hS => ?_)
        have hP : va_P (dC, dI) vwCl [(h0, .inr (2, [.int v_x_awaited, .int v_x_askedNow, .int v_x_signNow, .int v_7, .int v_x_digitsNow]))] H := hP
        have hD : va_D A [(h0, .inr (2, [.int v_x_awaited, .int v_x_askedNow, .int v_x_signNow, .int v_7, .int v_x_digitsNow]))] := hD
        refine lv_aload_n hx hb dX2_takesDigit_33 rfl (lv_at hl 0 rfl) ?_
        refine lv_dup hx hb dX2_takesDigit_34 rfl ?_
        refine va_get (D := (dC, dI)) (ci := 2) (v := .int v_x_digitsNow) (C := RX2) (T := TX2) (N := 5) hx hb hts hiX2 hown hK hP 0 rfl rfl 4 (by decide) hw3 (fun _ h9 => h9) rfl dX2_takesDigit_35 ?_
        refine lv_iconst (v := 1) hx hb dX2_takesDigit_38 (by decide) ?_
        refine lv_iadd hx hb dX2_takesDigit_39 ?_
        refine lv_topi (fun v_8 ev_8 => ?_)
        have hv_8 : v_8.toInt = (v_x_digitsNow_i + (1:Int)) := by rw [ev_8]; exact zz_addI v_x_digitsNow_h (by decide) (by omega) (by omega)
        refine va_put (D := (dC, dI)) (ci := 2) (v := .int v_8) (ty := .int) (C := RX2) (T := TX2) (N := 5) hx hb hts hiX2 tyX2 tyX2_ok nmX2 hown hK hP hD hS 0 rfl rfl 4 (by decide) hw3 (fun _ h9 => h9) rfl (by decide +kernel) rfl rfl (Nat.le_of_ble_eq_true rfl) dX2_takesDigit_40 (fun H locs hP hD hS => ?_)
        have hP : va_P (dC, dI) vwCl [(h0, .inr (2, [.int v_x_awaited, .int v_x_askedNow, .int v_x_signNow, .int v_7, .int v_8]))] H := hP
        have hD : va_D A [(h0, .inr (2, [.int v_x_awaited, .int v_x_askedNow, .int v_x_signNow, .int v_7, .int v_8]))] := hD
        refine lv_aload_n hx hb dX2_takesDigit_43 rfl (lv_at hl 0 rfl) ?_
        refine lv_iconst (v := 4) hx hb dX2_takesDigit_44 (by decide) ?_
        refine va_put (D := (dC, dI)) (ci := 2) (v := .int 4) (ty := .int) (C := RX2) (T := TX2) (N := 5) hx hb hts hiX2 tyX2 tyX2_ok nmX2 hown hK hP hD hS 0 rfl rfl 0 (by decide) hw5 (fun _ h9 => h9) rfl (by decide +kernel) rfl rfl (Nat.le_of_ble_eq_true rfl) dX2_takesDigit_45 (fun H locs hP hD hS => ?_)
        have hP : va_P (dC, dI) vwCl [(h0, .inr (2, [.int 4, .int v_x_askedNow, .int v_x_signNow, .int v_7, .int v_8]))] H := hP
        have hD : va_D A [(h0, .inr (2, [.int 4, .int v_x_askedNow, .int v_x_signNow, .int v_7, .int v_8]))] := hD
        refine lv_iconst (v := 1) hx hb dX2_takesDigit_48 (by decide) ?_
        have hu9 : (1 : Int32).toInt = (1:Int) := (by decide)
        have hx9_w_h0_awaited : (4 : Int32).toInt = (4:Int) := (by decide)
        have hx9_w_h0_numberNow : (v_7 : Int32).toInt = (v_7).toInt := rfl
        have hx9_w_h0_digitsNow : (v_8 : Int32).toInt = (v_x_digitsNow_i + (1:Int)) := hv_8
        have hP9 := hP.sub (ws' := [(h0, .inr (2, [.int 4, .int v_x_askedNow, .int v_x_signNow, .int v_7, .int v_8]))]) [0] rfl
        have hD9 := hD.sub (ws' := [(h0, .inr (2, [.int 4, .int v_x_askedNow, .int v_x_signNow, .int v_7, .int v_8]))]) [0] (by decide) rfl
        have hf9_0 : ((1 : Int32) = 1 ∧ ((48 ≤ pN_i ∧ pN_i ≤ 57 ∧ v_x_digitsNow_i < 3))) ∨ ((1 : Int32) = 0 ∧ ¬ ((48 ≤ pN_i ∧ pN_i ≤ 57 ∧ v_x_digitsNow_i < 3))) := Or.inl ⟨rfl, by omega⟩
        have hf9_1 : ¬ (48 ≤ pN_i ∧ pN_i ≤ 57 ∧ v_x_digitsNow_i < 3) ∨ ((4 : Int32).toInt = 4 ∧ v_8.toInt = v_x_digitsNow_i + 1) := by omega
        have hf9_2 : 0 ≤ (4 : Int32).toInt ∧ (4 : Int32).toInt ≤ 7 := by omega
        have hf9_3 : 0 ≤ v_8.toInt ∧ v_8.toInt ≤ 3 := by omega
        exact W.zret (v := 1) hx hb hr rfl (fun t ht hW => ⟨⟨1, 1, rfl, rfl, (4 : Int32), v_7, v_8, hf9_0, hf9_1, hf9_2, hf9_3, by rw [ht]; exact hP9, va_K.moved hW.alike hK, hD9⟩, hS.F ht⟩) hS.2.2 dX2_takesDigit_49
      ·
        have c_4 : ¬ (v_x_digitsNow_i < (3:Int)) := zz_ltn v_x_digitsNow_h (by decide) c_4
        refine lv_iconst (v := 0) hx hb dX2_takesDigit_15 (by decide) ?_
        have hu9 : (0 : Int32).toInt = (0:Int) := (by decide)
        have hx9_w_h0_awaited : (v_x_awaited : Int32).toInt = v_x_awaited_i := v_x_awaited_h
        have hx9_w_h0_numberNow : (v_x_numberNow : Int32).toInt = v_x_numberNow_i := v_x_numberNow_h
        have hx9_w_h0_digitsNow : (v_x_digitsNow : Int32).toInt = v_x_digitsNow_i := v_x_digitsNow_h
        have hP9 := hP.sub (ws' := [(h0, .inr (2, [.int v_x_awaited, .int v_x_askedNow, .int v_x_signNow, .int v_x_numberNow, .int v_x_digitsNow]))]) [0] rfl
        have hD9 := hD.sub (ws' := [(h0, .inr (2, [.int v_x_awaited, .int v_x_askedNow, .int v_x_signNow, .int v_x_numberNow, .int v_x_digitsNow]))]) [0] (by decide) rfl
        have hf9_0 : ((0 : Int32) = 1 ∧ ((48 ≤ pN_i ∧ pN_i ≤ 57 ∧ v_x_digitsNow_i < 3))) ∨ ((0 : Int32) = 0 ∧ ¬ ((48 ≤ pN_i ∧ pN_i ≤ 57 ∧ v_x_digitsNow_i < 3))) := Or.inr ⟨rfl, by omega⟩
        have hf9_1 : ¬ (48 ≤ pN_i ∧ pN_i ≤ 57 ∧ v_x_digitsNow_i < 3) ∨ (v_x_awaited.toInt = 4 ∧ v_x_digitsNow.toInt = v_x_digitsNow_i + 1) := by omega
        have hf9_2 : 0 ≤ v_x_awaited.toInt ∧ v_x_awaited.toInt ≤ 7 := by omega
        have hf9_3 : 0 ≤ v_x_digitsNow.toInt ∧ v_x_digitsNow.toInt ≤ 3 := by omega
        exact W.zret (v := 0) hx hb hr rfl (fun t ht hW => ⟨⟨0, 0, rfl, rfl, v_x_awaited, v_x_numberNow, v_x_digitsNow, hf9_0, hf9_1, hf9_2, hf9_3, by rw [ht]; exact hP9, va_K.moved hW.alike hK, hD9⟩, hS.F ht⟩) hS.2.2 dX2_takesDigit_16
  ·
    refine lv_if_eq (tgt := 15) hx hb dX2_takesDigit_4 (by decide) (fun c_9 => ?_) (fun c_9 => ?_)
    ·
      refine lv_iconst (v := 0) hx hb dX2_takesDigit_15 (by decide) ?_
      have hu9 : (0 : Int32).toInt = (0:Int) := (by decide)
      have hx9_w_h0_awaited : (v_x_awaited : Int32).toInt = v_x_awaited_i := v_x_awaited_h
      have hx9_w_h0_numberNow : (v_x_numberNow : Int32).toInt = v_x_numberNow_i := v_x_numberNow_h
      have hx9_w_h0_digitsNow : (v_x_digitsNow : Int32).toInt = v_x_digitsNow_i := v_x_digitsNow_h
      have hP9 := hP.sub (ws' := [(h0, .inr (2, [.int v_x_awaited, .int v_x_askedNow, .int v_x_signNow, .int v_x_numberNow, .int v_x_digitsNow]))]) [0] rfl
      have hD9 := hD.sub (ws' := [(h0, .inr (2, [.int v_x_awaited, .int v_x_askedNow, .int v_x_signNow, .int v_x_numberNow, .int v_x_digitsNow]))]) [0] (by decide) rfl
      have hf9_0 : ((0 : Int32) = 1 ∧ ((48 ≤ pN_i ∧ pN_i ≤ 57 ∧ v_x_digitsNow_i < 3))) ∨ ((0 : Int32) = 0 ∧ ¬ ((48 ≤ pN_i ∧ pN_i ≤ 57 ∧ v_x_digitsNow_i < 3))) := Or.inr ⟨rfl, by omega⟩
      have hf9_1 : ¬ (48 ≤ pN_i ∧ pN_i ≤ 57 ∧ v_x_digitsNow_i < 3) ∨ (v_x_awaited.toInt = 4 ∧ v_x_digitsNow.toInt = v_x_digitsNow_i + 1) := by omega
      have hf9_2 : 0 ≤ v_x_awaited.toInt ∧ v_x_awaited.toInt ≤ 7 := by omega
      have hf9_3 : 0 ≤ v_x_digitsNow.toInt ∧ v_x_digitsNow.toInt ≤ 3 := by omega
      exact W.zret (v := 0) hx hb hr rfl (fun t ht hW => ⟨⟨0, 0, rfl, rfl, v_x_awaited, v_x_numberNow, v_x_digitsNow, hf9_0, hf9_1, hf9_2, hf9_3, by rw [ht]; exact hP9, va_K.moved hW.alike hK, hD9⟩, hS.F ht⟩) hS.2.2 dX2_takesDigit_16
    ·
      exact absurd c_9 (by decide)

set_option maxHeartbeats 8000000 in
set_option maxRecDepth 100000 in
theorem c_X2_takesFirstDigit (l : Launch) (dC : Nat → ClassId) (dI : Nat → Nat → Nat) (cI cZ : ClassId) (sz : Nat) (h0 : Nat) (pN : Int32) (pN_i : Int) (pN_h : pN.toInt = pN_i) (v_x_awaited : Int32) (v_x_awaited_i : Int) (v_x_awaited_h : v_x_awaited.toInt = v_x_awaited_i) (B_v_x_awaited : 0 ≤ v_x_awaited_i ∧ v_x_awaited_i ≤ 7) (v_x_askedNow : Int32) (v_x_askedNow_i : Int) (v_x_askedNow_h : v_x_askedNow.toInt = v_x_askedNow_i) (B_v_x_askedNow : 0 ≤ v_x_askedNow_i ∧ v_x_askedNow_i ≤ 4) (v_x_signNow : Int32) (v_x_signNow_i : Int) (v_x_signNow_h : v_x_signNow.toInt = v_x_signNow_i) (v_x_numberNow : Int32) (v_x_numberNow_i : Int) (v_x_numberNow_h : v_x_numberNow.toInt = v_x_numberNow_i) (v_x_digitsNow : Int32) (v_x_digitsNow_i : Int) (v_x_digitsNow_h : v_x_digitsNow.toInt = v_x_digitsNow_i) (B_v_x_digitsNow : 0 ≤ v_x_digitsNow_i ∧ v_x_digitsNow_i ≤ 3) : Met l yX2_takesFirstDigit (Cond.code yX2_takesFirstDigit cX2_takesFirstDigit 2 (some .boolean) :: lw_good) ({ frames := 2, cells := 0, slots := 0, locals := 41 }) (va_Pc [.ref h0, .int pN] (fun U => U.heap.size = sz ∧ va_P (dC, dI) vwCl [(h0, .inr (2, [.int v_x_awaited, .int v_x_askedNow, .int v_x_signNow, .int v_x_numberNow, .int v_x_digitsNow]))] U.heap ∧ va_K (dC, dI) vwCl [(cI, .int), (cZ, .boolean)] U ∧ va_D (fun _ => True) [(h0, .inr (2, [.int v_x_awaited, .int v_x_askedNow, .int v_x_signNow, .int v_x_numberNow, .int v_x_digitsNow]))])) (va_Qi (fun (r u : Int32) => r = u) (fun u t => ∃ (w_h0_awaited : Int32) (w_h0_numberNow : Int32) (w_h0_digitsNow : Int32), ((u = 1 ∧ ((48 ≤ pN_i ∧ pN_i ≤ 57))) ∨ (u = 0 ∧ ¬ ((48 ≤ pN_i ∧ pN_i ≤ 57)))) ∧ (¬ (48 ≤ pN_i ∧ pN_i ≤ 57) ∨ (w_h0_awaited.toInt = 4 ∧ w_h0_digitsNow.toInt = 1)) ∧ (0 ≤ w_h0_awaited.toInt ∧ w_h0_awaited.toInt ≤ 7) ∧ (0 ≤ w_h0_digitsNow.toInt ∧ w_h0_digitsNow.toInt ≤ 3) ∧ va_P (dC, dI) vwCl [(h0, .inr (2, [.int w_h0_awaited, .int v_x_askedNow, .int v_x_signNow, .int w_h0_numberNow, .int w_h0_digitsNow]))] t.heap ∧ va_K (dC, dI) vwCl [(cI, .int), (cZ, .boolean)] t ∧ va_D (va_A [(h0, .inr (2, [.int v_x_awaited, .int v_x_askedNow, .int v_x_signNow, .int v_x_numberNow, .int v_x_digitsNow]))] sz) [(h0, .inr (2, [.int w_h0_awaited, .int v_x_askedNow, .int v_x_signNow, .int w_h0_numberNow, .int w_h0_digitsNow]))]) (va_A [(h0, .inr (2, [.int v_x_awaited, .int v_x_askedNow, .int v_x_signNow, .int v_x_numberNow, .int v_x_digitsNow]))] sz)) 0 0 (va_A [(h0, .inr (2, [.int v_x_awaited, .int v_x_askedNow, .int v_x_signNow, .int v_x_numberNow, .int v_x_digitsNow]))] sz) := by
  refine Met.ofW (cc := cX2_takesFirstDigit) (maxL := 2) (ret := (some .boolean)) (by decide) rfl ?_
  intro p e s m args below meth c s₁ B hml hv
  obtain ⟨rfl, hsz, hP, hK, hD0⟩ := hv
  have hx := B.exec
  have hb := B.bytes
  have hr := B.returns
  have hts := atoms_spec (ws := Cond.code yX2_takesFirstDigit cX2_takesFirstDigit 2 (some .boolean) :: lw_good) B.pre
  have hown : s.vm.findClass RX2 = some m.cls := findClass_of_methodNamed B.named
  have hlocks := B.notSynchronized
  have hiX2 : ∀ w ∈ wsX20, w ∈ (Cond.code yX2_takesFirstDigit cX2_takesFirstDigit 2 (some .boolean) :: lw_good) := fun w h => List.mem_cons_of_mem _ (zi_X2 w h)
  have hw0 := hts (.fieldLink RX2 21 "BunchRace$OrderReader" "numberNow" "I") (List.mem_cons_of_mem _ zw_182)
  have hw1 := hts (.fieldLink RX2 24 "BunchRace$OrderReader" "digitsNow" "I") (List.mem_cons_of_mem _ zw_183)
  have hw2 := hts (.initialized RX2) (List.mem_cons_of_mem _ zw_53)
  have hw3 := hts (.methodLink RX2 55 yX2_takesDigit) (List.mem_cons_of_mem _ zw_473)
  have hw4 := hts (.instanceMethod yX2_takesDigit) (List.mem_cons_of_mem _ zw_475)
  have hw5 := hts (.selects RX2 yX2_takesDigit yX2_takesDigit) (List.mem_cons_of_mem _ zw_4)
  subst hsz
  have hD := hD0.self (sz := s.heap.size)
  generalize hAe : va_A [(h0, .inr (2, [.int v_x_awaited, .int v_x_askedNow, .int v_x_signNow, .int v_x_numberNow, .int v_x_digitsNow]))] s.heap.size = A at hD ⊢
  have hA : ∀ q : Nat, s.heap.size ≤ q → A q := fun q h => by rw [← hAe]; exact Or.inr h
  have hS : va_S A s.heap s.heap [] := va_S.rf
  have hP : va_P (dC, dI) vwCl [(h0, .inr (2, [.int v_x_awaited, .int v_x_askedNow, .int v_x_signNow, .int v_x_numberNow, .int v_x_digitsNow]))] s.heap := hP
  have hl := lv_entry ([.ref h0, .int pN]) (n := 2) (Nat.le_of_ble_eq_true rfl)
  rw [lg_entry_eq]
  generalize (lg_sl ([.ref h0, .int pN]) ++ List.replicate (2 - (lg_sl ([.ref h0, .int pN])).length) Slot.unset).toArray = ls at hl ⊢
  have hl : lv_has ls 2 [(0, .ref h0), (1, .int pN)] := hl
  refine lv_aload_n hx hb dX2_takesFirstDigit_0 rfl (lv_at hl 0 rfl) ?_
  refine lv_iconst (v := 0) hx hb dX2_takesFirstDigit_1 (by decide) ?_
  refine va_put (D := (dC, dI)) (ci := 2) (v := .int 0) (ty := .int) (C := RX2) (T := TX2) (N := 5) hx hb hts hiX2 tyX2 tyX2_ok nmX2 hown hK hP hD hS 0 rfl rfl 3 (by decide) hw0 (fun _ h9 => h9) rfl (by decide +kernel) rfl rfl (Nat.le_of_ble_eq_true rfl) dX2_takesFirstDigit_2 (fun H locs hP hD hS => ?_)
  have hP : va_P (dC, dI) vwCl [(h0, .inr (2, [.int v_x_awaited, .int v_x_askedNow, .int v_x_signNow, .int 0, .int v_x_digitsNow]))] H := hP
  have hD : va_D A [(h0, .inr (2, [.int v_x_awaited, .int v_x_askedNow, .int v_x_signNow, .int 0, .int v_x_digitsNow]))] := hD
  refine lv_aload_n hx hb dX2_takesFirstDigit_5 rfl (lv_at hl 0 rfl) ?_
  refine lv_iconst (v := 0) hx hb dX2_takesFirstDigit_6 (by decide) ?_
  refine va_put (D := (dC, dI)) (ci := 2) (v := .int 0) (ty := .int) (C := RX2) (T := TX2) (N := 5) hx hb hts hiX2 tyX2 tyX2_ok nmX2 hown hK hP hD hS 0 rfl rfl 4 (by decide) hw1 (fun _ h9 => h9) rfl (by decide +kernel) rfl rfl (Nat.le_of_ble_eq_true rfl) dX2_takesFirstDigit_7 (fun H locs hP hD hS => ?_)
  have hP : va_P (dC, dI) vwCl [(h0, .inr (2, [.int v_x_awaited, .int v_x_askedNow, .int v_x_signNow, .int 0, .int 0]))] H := hP
  have hD : va_D A [(h0, .inr (2, [.int v_x_awaited, .int v_x_askedNow, .int v_x_signNow, .int 0, .int 0]))] := hD
  refine lv_aload_n hx hb dX2_takesFirstDigit_10 rfl (lv_at hl 0 rfl) ?_
  refine lv_iload_n hx hb dX2_takesFirstDigit_11 rfl (lv_at hl 1 rfl) ?_
  have hPc := hP.sub (ws' := [(h0, .inr (2, [.int v_x_awaited, .int v_x_askedNow, .int v_x_signNow, .int 0, .int 0]))]) [0] rfl
  have hDc := hD.sub (ws' := [(h0, .inr (2, [.int v_x_awaited, .int v_x_askedNow, .int v_x_signNow, .int 0, .int 0]))]) [0] (by decide) rfl
  have hFc := va_free (wc := [(h0, .inr (2, [.int v_x_awaited, .int v_x_askedNow, .int v_x_signNow, .int 0, .int 0]))]) hD hS hA [0] rfl
  refine va_calli (va_runV (As := [.int pN]) (rest := []) ⟨hx, hb, hml, hown, hts⟩ (c_X2_takesDigit l dC dI cI cZ (H).size h0 pN pN_i pN_h v_x_awaited v_x_awaited_i v_x_awaited_h (by omega) v_x_askedNow v_x_askedNow_i v_x_askedNow_h (by omega) v_x_signNow v_x_signNow_i v_x_signNow_h 0 (0:Int) (by decide) 0 (0:Int) (by decide) (by omega)) ⟨callB_of 1 hts (zz_good zw_476) rfl rfl rfl hw2 hw3 (by decide +kernel) ⟨Nat.le_of_ble_eq_true rfl, Nat.le_of_ble_eq_true rfl⟩, hw4, hw5⟩ ⟨fun a U g mk q => by obtain ⟨q0, q1, qP, qK, qD⟩ := q; exact ⟨q0, q1, qP, va_K.moved (u := U) (U := U.calling g mk a) (Vm.Alike.refl U.vm) qK, qD⟩, va_recv hK hPc (ci := 2) (q0 := 0) rfl rfl, fun U hU hW => ⟨rfl, by rw [hU], by rw [hU]; exact hPc, va_K.moved hW.alike hK, hDc.weaken (fun _ _ _ _ => trivial)⟩⟩ rfl rfl hl.1 rfl (lv_room (Nat.le_of_ble_eq_true rfl)) dX2_takesFirstDigit_12 ⟨Nat.le_of_ble_eq_true rfl, Nat.le_of_ble_eq_true rfl⟩) hS (fun q _ h => hFc q h) hFc (fun r_1 u t H1 locs ht hvm hpost hB hz1 hk1 hS => ?_)
  subst hpost
  obtain ⟨w_h0_awaited_2, w_h0_numberNow_3, w_h0_digitsNow_4, hf_5, hf_6, hf_7, hf_8, hP1, hK1, hD1⟩ := hB
  rw [ht] at hP1
  obtain ⟨hP, hD⟩ := va_join (wr := []) (w1 := [(h0, .inr (2, [.int w_h0_awaited_2, .int v_x_askedNow, .int v_x_signNow, .int w_h0_numberNow_3, .int w_h0_digitsNow_4]))]) hP hD [0] [] rfl rfl (by decide) (by decide) hk1 hFc hP1 hD1
  generalize H1 = H at hP hS ⊢
  have hP : va_P (dC, dI) vwCl [(h0, .inr (2, [.int w_h0_awaited_2, .int v_x_askedNow, .int v_x_signNow, .int w_h0_numberNow_3, .int w_h0_digitsNow_4]))] H := hP
  have hD : va_D A [(h0, .inr (2, [.int w_h0_awaited_2, .int v_x_askedNow, .int v_x_signNow, .int w_h0_numberNow_3, .int w_h0_digitsNow_4]))] := hD
  have hf_5 : (r_1 = 1 ∧ ((48 ≤ pN_i ∧ pN_i ≤ 57 ∧ (0:Int) < 3))) ∨ (r_1 = 0 ∧ ¬ ((48 ≤ pN_i ∧ pN_i ≤ 57 ∧ (0:Int) < 3))) := hf_5
  have hf_6 : ¬ (48 ≤ pN_i ∧ pN_i ≤ 57 ∧ (0:Int) < 3) ∨ (w_h0_awaited_2.toInt = 4 ∧ w_h0_digitsNow_4.toInt = (0:Int) + 1) := hf_6
  have hf_7 : 0 ≤ w_h0_awaited_2.toInt ∧ w_h0_awaited_2.toInt ≤ 7 := hf_7
  have hf_8 : 0 ≤ w_h0_digitsNow_4.toInt ∧ w_h0_digitsNow_4.toInt ≤ 3 := hf_8
  rcases hf_5 with ⟨rfl, hf_5⟩ | ⟨rfl, hf_5⟩
  ·
    have hu9 : (1 : Int32).toInt = (1:Int) := (by decide)
    have hx9_w_h0_awaited : (w_h0_awaited_2 : Int32).toInt = (w_h0_awaited_2).toInt := rfl
    have hx9_w_h0_numberNow : (w_h0_numberNow_3 : Int32).toInt = (w_h0_numberNow_3).toInt := rfl
    have hx9_w_h0_digitsNow : (w_h0_digitsNow_4 : Int32).toInt = (w_h0_digitsNow_4).toInt := rfl
    have hP9 := hP.sub (ws' := [(h0, .inr (2, [.int w_h0_awaited_2, .int v_x_askedNow, .int v_x_signNow, .int w_h0_numberNow_3, .int w_h0_digitsNow_4]))]) [0] rfl
    have hD9 := hD.sub (ws' := [(h0, .inr (2, [.int w_h0_awaited_2, .int v_x_askedNow, .int v_x_signNow, .int w_h0_numberNow_3, .int w_h0_digitsNow_4]))]) [0] (by decide) rfl
    have hf9_0 : ((1 : Int32) = 1 ∧ ((48 ≤ pN_i ∧ pN_i ≤ 57))) ∨ ((1 : Int32) = 0 ∧ ¬ ((48 ≤ pN_i ∧ pN_i ≤ 57))) := Or.inl ⟨rfl, by omega⟩
    have hf9_1 : ¬ (48 ≤ pN_i ∧ pN_i ≤ 57) ∨ (w_h0_awaited_2.toInt = 4 ∧ w_h0_digitsNow_4.toInt = 1) := by omega
    have hf9_2 : 0 ≤ w_h0_awaited_2.toInt ∧ w_h0_awaited_2.toInt ≤ 7 := by omega
    have hf9_3 : 0 ≤ w_h0_digitsNow_4.toInt ∧ w_h0_digitsNow_4.toInt ≤ 3 := by omega
    exact W.zret (v := 1) hx hb hr rfl (fun t ht hW => ⟨⟨1, 1, rfl, rfl, w_h0_awaited_2, w_h0_numberNow_3, w_h0_digitsNow_4, hf9_0, hf9_1, hf9_2, hf9_3, by rw [ht]; exact hP9, va_K.moved hW.alike hK, hD9⟩, hS.F ht⟩) hS.2.2 dX2_takesFirstDigit_15
  ·
    have hu9 : (0 : Int32).toInt = (0:Int) := (by decide)
    have hx9_w_h0_awaited : (w_h0_awaited_2 : Int32).toInt = (w_h0_awaited_2).toInt := rfl
    have hx9_w_h0_numberNow : (w_h0_numberNow_3 : Int32).toInt = (w_h0_numberNow_3).toInt := rfl
    have hx9_w_h0_digitsNow : (w_h0_digitsNow_4 : Int32).toInt = (w_h0_digitsNow_4).toInt := rfl
    have hP9 := hP.sub (ws' := [(h0, .inr (2, [.int w_h0_awaited_2, .int v_x_askedNow, .int v_x_signNow, .int w_h0_numberNow_3, .int w_h0_digitsNow_4]))]) [0] rfl
    have hD9 := hD.sub (ws' := [(h0, .inr (2, [.int w_h0_awaited_2, .int v_x_askedNow, .int v_x_signNow, .int w_h0_numberNow_3, .int w_h0_digitsNow_4]))]) [0] (by decide) rfl
    have hf9_0 : ((0 : Int32) = 1 ∧ ((48 ≤ pN_i ∧ pN_i ≤ 57))) ∨ ((0 : Int32) = 0 ∧ ¬ ((48 ≤ pN_i ∧ pN_i ≤ 57))) := Or.inr ⟨rfl, by omega⟩
    have hf9_1 : ¬ (48 ≤ pN_i ∧ pN_i ≤ 57) ∨ (w_h0_awaited_2.toInt = 4 ∧ w_h0_digitsNow_4.toInt = 1) := by omega
    have hf9_2 : 0 ≤ w_h0_awaited_2.toInt ∧ w_h0_awaited_2.toInt ≤ 7 := by omega
    have hf9_3 : 0 ≤ w_h0_digitsNow_4.toInt ∧ w_h0_digitsNow_4.toInt ≤ 3 := by omega
    exact W.zret (v := 0) hx hb hr rfl (fun t ht hW => ⟨⟨0, 0, rfl, rfl, w_h0_awaited_2, w_h0_numberNow_3, w_h0_digitsNow_4, hf9_0, hf9_1, hf9_2, hf9_3, by rw [ht]; exact hP9, va_K.moved hW.alike hK, hD9⟩, hS.F ht⟩) hS.2.2 dX2_takesFirstDigit_15

set_option maxHeartbeats 8000000 in
set_option maxRecDepth 100000 in
theorem c_X2_takesMark (l : Launch) (dC : Nat → ClassId) (dI : Nat → Nat → Nat) (cI cZ : ClassId) (sz : Nat) (h0 : Nat) (pN : Int32) (pN_i : Int) (pN_h : pN.toInt = pN_i) (pM : Int32) (pM_i : Int) (pM_h : pM.toInt = pM_i) (pT : Int32) (pT_i : Int) (pT_h : pT.toInt = pT_i) (B_pT : 0 ≤ pT_i ∧ pT_i ≤ 7) (v_x_awaited : Int32) (v_x_awaited_i : Int) (v_x_awaited_h : v_x_awaited.toInt = v_x_awaited_i) (B_v_x_awaited : 0 ≤ v_x_awaited_i ∧ v_x_awaited_i ≤ 7) (v_x_askedNow : Int32) (v_x_askedNow_i : Int) (v_x_askedNow_h : v_x_askedNow.toInt = v_x_askedNow_i) (B_v_x_askedNow : 0 ≤ v_x_askedNow_i ∧ v_x_askedNow_i ≤ 4) (v_x_signNow : Int32) (v_x_signNow_i : Int) (v_x_signNow_h : v_x_signNow.toInt = v_x_signNow_i) (v_x_numberNow : Int32) (v_x_numberNow_i : Int) (v_x_numberNow_h : v_x_numberNow.toInt = v_x_numberNow_i) (v_x_digitsNow : Int32) (v_x_digitsNow_i : Int) (v_x_digitsNow_h : v_x_digitsNow.toInt = v_x_digitsNow_i) (B_v_x_digitsNow : 0 ≤ v_x_digitsNow_i ∧ v_x_digitsNow_i ≤ 3) : Met l yX2_takesMark (Cond.code yX2_takesMark cX2_takesMark 4 (some .boolean) :: lw_good) ({ frames := 0, cells := 0, slots := 0, locals := 0 }) (va_Pc [.ref h0, .int pN, .int pM, .int pT] (fun U => U.heap.size = sz ∧ va_P (dC, dI) vwCl [(h0, .inr (2, [.int v_x_awaited, .int v_x_askedNow, .int v_x_signNow, .int v_x_numberNow, .int v_x_digitsNow]))] U.heap ∧ va_K (dC, dI) vwCl [(cI, .int), (cZ, .boolean)] U ∧ va_D (fun _ => True) [(h0, .inr (2, [.int v_x_awaited, .int v_x_askedNow, .int v_x_signNow, .int v_x_numberNow, .int v_x_digitsNow]))])) (va_Qi (fun (r u : Int32) => r = u) (fun u t => ∃ (w_h0_awaited : Int32), ((u = 1 ∧ (pN_i = pM_i)) ∨ (u = 0 ∧ ¬ (pN_i = pM_i))) ∧ (¬ pN_i = pM_i ∨ w_h0_awaited.toInt = pT_i) ∧ (0 ≤ w_h0_awaited.toInt ∧ w_h0_awaited.toInt ≤ 7) ∧ va_P (dC, dI) vwCl [(h0, .inr (2, [.int w_h0_awaited, .int v_x_askedNow, .int v_x_signNow, .int v_x_numberNow, .int v_x_digitsNow]))] t.heap ∧ va_K (dC, dI) vwCl [(cI, .int), (cZ, .boolean)] t ∧ va_D (va_A [(h0, .inr (2, [.int v_x_awaited, .int v_x_askedNow, .int v_x_signNow, .int v_x_numberNow, .int v_x_digitsNow]))] sz) [(h0, .inr (2, [.int w_h0_awaited, .int v_x_askedNow, .int v_x_signNow, .int v_x_numberNow, .int v_x_digitsNow]))]) (va_A [(h0, .inr (2, [.int v_x_awaited, .int v_x_askedNow, .int v_x_signNow, .int v_x_numberNow, .int v_x_digitsNow]))] sz)) 0 0 (va_A [(h0, .inr (2, [.int v_x_awaited, .int v_x_askedNow, .int v_x_signNow, .int v_x_numberNow, .int v_x_digitsNow]))] sz) := by
  refine Met.ofW (cc := cX2_takesMark) (maxL := 4) (ret := (some .boolean)) (by decide) rfl ?_
  intro p e s m args below meth c s₁ B hml hv
  obtain ⟨rfl, hsz, hP, hK, hD0⟩ := hv
  have hx := B.exec
  have hb := B.bytes
  have hr := B.returns
  have hts := atoms_spec (ws := Cond.code yX2_takesMark cX2_takesMark 4 (some .boolean) :: lw_good) B.pre
  have hown : s.vm.findClass RX2 = some m.cls := findClass_of_methodNamed B.named
  have hlocks := B.notSynchronized
  have hiX2 : ∀ w ∈ wsX20, w ∈ (Cond.code yX2_takesMark cX2_takesMark 4 (some .boolean) :: lw_good) := fun w h => List.mem_cons_of_mem _ (zi_X2 w h)
  have hw0 := hts (.fieldLink RX2 11 "BunchRace$OrderReader" "awaited" "I") (List.mem_cons_of_mem _ zw_179)
  subst hsz
  have hD := hD0.self (sz := s.heap.size)
  generalize hAe : va_A [(h0, .inr (2, [.int v_x_awaited, .int v_x_askedNow, .int v_x_signNow, .int v_x_numberNow, .int v_x_digitsNow]))] s.heap.size = A at hD ⊢
  have hA : ∀ q : Nat, s.heap.size ≤ q → A q := fun q h => by rw [← hAe]; exact Or.inr h
  have hS : va_S A s.heap s.heap [] := va_S.rf
  have hP : va_P (dC, dI) vwCl [(h0, .inr (2, [.int v_x_awaited, .int v_x_askedNow, .int v_x_signNow, .int v_x_numberNow, .int v_x_digitsNow]))] s.heap := hP
  have hl := lv_entry ([.ref h0, .int pN, .int pM, .int pT]) (n := 4) (Nat.le_of_ble_eq_true rfl)
  rw [lg_entry_eq]
  generalize (lg_sl ([.ref h0, .int pN, .int pM, .int pT]) ++ List.replicate (4 - (lg_sl ([.ref h0, .int pN, .int pM, .int pT])).length) Slot.unset).toArray = ls at hl ⊢
  have hl : lv_has ls 4 [(0, .ref h0), (1, .int pN), (2, .int pM), (3, .int pT)] := hl
  refine lv_iload_n hx hb dX2_takesMark_0 rfl (lv_at hl 1 rfl) ?_
  refine lv_iload_n hx hb dX2_takesMark_1 rfl (lv_at hl 2 rfl) ?_
  refine lv_icmp_eq (tgt := 7) hx hb dX2_takesMark_2 (by decide) (fun c_1 => ?_) (fun c_1 => ?_)
  ·
    have c_1 : pN_i = pM_i := zz_eq pN_h pM_h c_1
    refine lv_aload_n hx hb dX2_takesMark_7 rfl (lv_at hl 0 rfl) ?_
    refine lv_iload_n hx hb dX2_takesMark_8 rfl (lv_at hl 3 rfl) ?_
    refine va_put (D := (dC, dI)) (ci := 2) (v := .int pT) (ty := .int) (C := RX2) (T := TX2) (N := 5) hx hb hts hiX2 tyX2 tyX2_ok nmX2 hown hK hP hD hS 0 rfl rfl 0 (by decide) hw0 (fun _ h9 => h9) rfl (by decide +kernel) rfl rfl (Nat.le_of_ble_eq_true rfl) dX2_takesMark_9 (fun H locs hP hD hS => ?_)
    have hP : va_P (dC, dI) vwCl [(h0, .inr (2, [.int pT, .int v_x_askedNow, .int v_x_signNow, .int v_x_numberNow, .int v_x_digitsNow]))] H := hP
    have hD : va_D A [(h0, .inr (2, [.int pT, .int v_x_askedNow, .int v_x_signNow, .int v_x_numberNow, .int v_x_digitsNow]))] := hD
    refine lv_iconst (v := 1) hx hb dX2_takesMark_12 (by decide) ?_
    have hu9 : (1 : Int32).toInt = (1:Int) := (by decide)
    have hx9_w_h0_awaited : (pT : Int32).toInt = pT_i := pT_h
    have hP9 := hP.sub (ws' := [(h0, .inr (2, [.int pT, .int v_x_askedNow, .int v_x_signNow, .int v_x_numberNow, .int v_x_digitsNow]))]) [0] rfl
    have hD9 := hD.sub (ws' := [(h0, .inr (2, [.int pT, .int v_x_askedNow, .int v_x_signNow, .int v_x_numberNow, .int v_x_digitsNow]))]) [0] (by decide) rfl
    have hf9_0 : ((1 : Int32) = 1 ∧ (pN_i = pM_i)) ∨ ((1 : Int32) = 0 ∧ ¬ (pN_i = pM_i)) := Or.inl ⟨rfl, by omega⟩
    have hf9_1 : ¬ pN_i = pM_i ∨ pT.toInt = pT_i := by omega
    have hf9_2 : 0 ≤ pT.toInt ∧ pT.toInt ≤ 7 := by omega
    exact W.zret (v := 1) hx hb hr rfl (fun t ht hW => ⟨⟨1, 1, rfl, rfl, pT, hf9_0, hf9_1, hf9_2, by rw [ht]; exact hP9, va_K.moved hW.alike hK, hD9⟩, hS.F ht⟩) hS.2.2 dX2_takesMark_13
  ·
    have c_1 : ¬ (pN_i = pM_i) := zz_eqn pN_h pM_h c_1
    refine lv_iconst (v := 0) hx hb dX2_takesMark_5 (by decide) ?_
    have hu9 : (0 : Int32).toInt = (0:Int) := (by decide)
    have hx9_w_h0_awaited : (v_x_awaited : Int32).toInt = v_x_awaited_i := v_x_awaited_h
    have hP9 := hP.sub (ws' := [(h0, .inr (2, [.int v_x_awaited, .int v_x_askedNow, .int v_x_signNow, .int v_x_numberNow, .int v_x_digitsNow]))]) [0] rfl
    have hD9 := hD.sub (ws' := [(h0, .inr (2, [.int v_x_awaited, .int v_x_askedNow, .int v_x_signNow, .int v_x_numberNow, .int v_x_digitsNow]))]) [0] (by decide) rfl
    have hf9_0 : ((0 : Int32) = 1 ∧ (pN_i = pM_i)) ∨ ((0 : Int32) = 0 ∧ ¬ (pN_i = pM_i)) := Or.inr ⟨rfl, by omega⟩
    have hf9_1 : ¬ pN_i = pM_i ∨ v_x_awaited.toInt = pT_i := by omega
    have hf9_2 : 0 ≤ v_x_awaited.toInt ∧ v_x_awaited.toInt ≤ 7 := by omega
    exact W.zret (v := 0) hx hb hr rfl (fun t ht hW => ⟨⟨0, 0, rfl, rfl, v_x_awaited, hf9_0, hf9_1, hf9_2, by rw [ht]; exact hP9, va_K.moved hW.alike hK, hD9⟩, hS.F ht⟩) hS.2.2 dX2_takesMark_6

set_option maxHeartbeats 8000000 in
set_option maxRecDepth 100000 in
theorem c_X2_takesPace (l : Launch) (dC : Nat → ClassId) (dI : Nat → Nat → Nat) (cI cZ : ClassId) (sz : Nat) (h0 : Nat) (pN : Int32) (pN_i : Int) (pN_h : pN.toInt = pN_i) (pBk : Nat) (v_x_awaited : Int32) (v_x_awaited_i : Int) (v_x_awaited_h : v_x_awaited.toInt = v_x_awaited_i) (B_v_x_awaited : 0 ≤ v_x_awaited_i ∧ v_x_awaited_i ≤ 7) (v_x_askedNow : Int32) (v_x_askedNow_i : Int) (v_x_askedNow_h : v_x_askedNow.toInt = v_x_askedNow_i) (B_v_x_askedNow : 0 ≤ v_x_askedNow_i ∧ v_x_askedNow_i ≤ 4) (v_x_signNow : Int32) (v_x_signNow_i : Int) (v_x_signNow_h : v_x_signNow.toInt = v_x_signNow_i) (v_x_numberNow : Int32) (v_x_numberNow_i : Int) (v_x_numberNow_h : v_x_numberNow.toInt = v_x_numberNow_i) (v_x_digitsNow : Int32) (v_x_digitsNow_i : Int) (v_x_digitsNow_h : v_x_digitsNow.toInt = v_x_digitsNow_i) (B_v_x_digitsNow : 0 ≤ v_x_digitsNow_i ∧ v_x_digitsNow_i ≤ 3) (y_clauses : Nat) (y_asked : Nat) (y_signs : Nat) (y_numbers : Nat) (y_paces : Nat) (f_y_clauses : Nat → Int32) (R_y_clauses : zr f_y_clauses 10 (0) (16)) (f_y_asked : Nat → Int32) (R_y_asked : zr f_y_asked 160 (0) (4)) (f_y_signs : Nat → Int32) (f_y_numbers : Nat → Int32) (f_y_paces : Nat → Int32) (R_y_paces : zr f_y_paces 160 (0) (9)) : Met l yX2_takesPace (Cond.code yX2_takesPace cX2_takesPace 3 (some .boolean) :: lw_good) ({ frames := 1, cells := 0, slots := 0, locals := 25 }) (va_Pc [.ref h0, .int pN, .ref pBk] (fun U => U.heap.size = sz ∧ va_P (dC, dI) vwCl [(h0, .inr (2, [.int v_x_awaited, .int v_x_askedNow, .int v_x_signNow, .int v_x_numberNow, .int v_x_digitsNow])), (pBk, .inr (1, [.ref y_clauses, .ref y_asked, .ref y_signs, .ref y_numbers, .ref y_paces])), (y_clauses, .inl (cI, 10, .inl f_y_clauses)), (y_asked, .inl (cI, 160, .inl f_y_asked)), (y_signs, .inl (cI, 160, .inl f_y_signs)), (y_numbers, .inl (cI, 160, .inl f_y_numbers)), (y_paces, .inl (cI, 160, .inl f_y_paces))] U.heap ∧ va_K (dC, dI) vwCl [(cI, .int), (cZ, .boolean)] U ∧ va_D (fun _ => True) [(h0, .inr (2, [.int v_x_awaited, .int v_x_askedNow, .int v_x_signNow, .int v_x_numberNow, .int v_x_digitsNow])), (pBk, .inr (1, [.ref y_clauses, .ref y_asked, .ref y_signs, .ref y_numbers, .ref y_paces])), (y_clauses, .inl (cI, 10, .inl f_y_clauses)), (y_asked, .inl (cI, 160, .inl f_y_asked)), (y_signs, .inl (cI, 160, .inl f_y_signs)), (y_numbers, .inl (cI, 160, .inl f_y_numbers)), (y_paces, .inl (cI, 160, .inl f_y_paces))])) (va_Qi (fun (r u : Int32) => r = u) (fun u t => ∃ (w_h0_awaited : Int32) (g_y_clauses : Nat → Int32) (g_y_asked : Nat → Int32) (g_y_signs : Nat → Int32) (g_y_numbers : Nat → Int32) (g_y_paces : Nat → Int32), ((u = 1 ∧ ((48 ≤ pN_i ∧ pN_i ≤ 57))) ∨ (u = 0 ∧ ¬ ((48 ≤ pN_i ∧ pN_i ≤ 57)))) ∧ (¬ (48 ≤ pN_i ∧ pN_i ≤ 57) ∨ w_h0_awaited.toInt = 7) ∧ (0 ≤ w_h0_awaited.toInt ∧ w_h0_awaited.toInt ≤ 7) ∧ (zr g_y_clauses 10 (0) (16)) ∧ (zr g_y_asked 160 (0) (4)) ∧ (zr g_y_paces 160 (0) (9)) ∧ va_P (dC, dI) vwCl [(h0, .inr (2, [.int w_h0_awaited, .int v_x_askedNow, .int v_x_signNow, .int v_x_numberNow, .int v_x_digitsNow])), (pBk, .inr (1, [.ref y_clauses, .ref y_asked, .ref y_signs, .ref y_numbers, .ref y_paces])), (y_clauses, .inl (cI, 10, .inl g_y_clauses)), (y_asked, .inl (cI, 160, .inl g_y_asked)), (y_signs, .inl (cI, 160, .inl g_y_signs)), (y_numbers, .inl (cI, 160, .inl g_y_numbers)), (y_paces, .inl (cI, 160, .inl g_y_paces))] t.heap ∧ va_K (dC, dI) vwCl [(cI, .int), (cZ, .boolean)] t ∧ va_D (va_A [(h0, .inr (2, [.int v_x_awaited, .int v_x_askedNow, .int v_x_signNow, .int v_x_numberNow, .int v_x_digitsNow])), (pBk, .inr (1, [.ref y_clauses, .ref y_asked, .ref y_signs, .ref y_numbers, .ref y_paces])), (y_clauses, .inl (cI, 10, .inl f_y_clauses)), (y_asked, .inl (cI, 160, .inl f_y_asked)), (y_signs, .inl (cI, 160, .inl f_y_signs)), (y_numbers, .inl (cI, 160, .inl f_y_numbers)), (y_paces, .inl (cI, 160, .inl f_y_paces))] sz) [(h0, .inr (2, [.int w_h0_awaited, .int v_x_askedNow, .int v_x_signNow, .int v_x_numberNow, .int v_x_digitsNow])), (pBk, .inr (1, [.ref y_clauses, .ref y_asked, .ref y_signs, .ref y_numbers, .ref y_paces])), (y_clauses, .inl (cI, 10, .inl g_y_clauses)), (y_asked, .inl (cI, 160, .inl g_y_asked)), (y_signs, .inl (cI, 160, .inl g_y_signs)), (y_numbers, .inl (cI, 160, .inl g_y_numbers)), (y_paces, .inl (cI, 160, .inl g_y_paces))]) (va_A [(h0, .inr (2, [.int v_x_awaited, .int v_x_askedNow, .int v_x_signNow, .int v_x_numberNow, .int v_x_digitsNow])), (pBk, .inr (1, [.ref y_clauses, .ref y_asked, .ref y_signs, .ref y_numbers, .ref y_paces])), (y_clauses, .inl (cI, 10, .inl f_y_clauses)), (y_asked, .inl (cI, 160, .inl f_y_asked)), (y_signs, .inl (cI, 160, .inl f_y_signs)), (y_numbers, .inl (cI, 160, .inl f_y_numbers)), (y_paces, .inl (cI, 160, .inl f_y_paces))] sz)) 0 0 (va_A [(h0, .inr (2, [.int v_x_awaited, .int v_x_askedNow, .int v_x_signNow, .int v_x_numberNow, .int v_x_digitsNow])), (pBk, .inr (1, [.ref y_clauses, .ref y_asked, .ref y_signs, .ref y_numbers, .ref y_paces])), (y_clauses, .inl (cI, 10, .inl f_y_clauses)), (y_asked, .inl (cI, 160, .inl f_y_asked)), (y_signs, .inl (cI, 160, .inl f_y_signs)), (y_numbers, .inl (cI, 160, .inl f_y_numbers)), (y_paces, .inl (cI, 160, .inl f_y_paces))] sz) := by
  refine Met.ofW (cc := cX2_takesPace) (maxL := 3) (ret := (some .boolean)) (by decide) rfl ?_
  intro p e s m args below meth c s₁ B hml hv
  obtain ⟨rfl, hsz, hP, hK, hD0⟩ := hv
  have hx := B.exec
  have hb := B.bytes
  have hr := B.returns
  have hts := atoms_spec (ws := Cond.code yX2_takesPace cX2_takesPace 3 (some .boolean) :: lw_good) B.pre
  have hown : s.vm.findClass RX2 = some m.cls := findClass_of_methodNamed B.named
  have hlocks := B.notSynchronized
  have hiX2 : ∀ w ∈ wsX20, w ∈ (Cond.code yX2_takesPace cX2_takesPace 3 (some .boolean) :: lw_good) := fun w h => List.mem_cons_of_mem _ (zi_X2 w h)
  have hw0 := hts (.initialized RX2) (List.mem_cons_of_mem _ zw_53)
  have hw1 := hts (.methodLink RX2 69 yX2_isDigit) (List.mem_cons_of_mem _ zw_477)
  have hw2 := hts (.static yX2_isDigit) (List.mem_cons_of_mem _ zw_478)
  have hw3 := hts (.fieldLink RX2 15 "BunchRace$OrderReader" "askedNow" "I") (List.mem_cons_of_mem _ zw_180)
  have hw4 := hts (.fieldLink RX2 18 "BunchRace$OrderReader" "signNow" "I") (List.mem_cons_of_mem _ zw_181)
  have hw5 := hts (.fieldLink RX2 21 "BunchRace$OrderReader" "numberNow" "I") (List.mem_cons_of_mem _ zw_182)
  have hw6 := hts (.initialized RX1) (List.mem_cons_of_mem _ zw_52)
  have hw7 := hts (.methodLink RX2 72 yX1_draftClause) (List.mem_cons_of_mem _ zw_488)
  have hw8 := hts (.instanceMethod yX1_draftClause) (List.mem_cons_of_mem _ zw_489)
  have hw9 := hts (.selects RX1 yX1_draftClause yX1_draftClause) (List.mem_cons_of_mem _ zw_490)
  have hw10 := hts (.fieldLink RX2 11 "BunchRace$OrderReader" "awaited" "I") (List.mem_cons_of_mem _ zw_179)
  subst hsz
  have hD := hD0.self (sz := s.heap.size)
  generalize hAe : va_A [(h0, .inr (2, [.int v_x_awaited, .int v_x_askedNow, .int v_x_signNow, .int v_x_numberNow, .int v_x_digitsNow])), (pBk, .inr (1, [.ref y_clauses, .ref y_asked, .ref y_signs, .ref y_numbers, .ref y_paces])), (y_clauses, .inl (cI, 10, .inl f_y_clauses)), (y_asked, .inl (cI, 160, .inl f_y_asked)), (y_signs, .inl (cI, 160, .inl f_y_signs)), (y_numbers, .inl (cI, 160, .inl f_y_numbers)), (y_paces, .inl (cI, 160, .inl f_y_paces))] s.heap.size = A at hD ⊢
  have hA : ∀ q : Nat, s.heap.size ≤ q → A q := fun q h => by rw [← hAe]; exact Or.inr h
  have hS : va_S A s.heap s.heap [] := va_S.rf
  have hP : va_P (dC, dI) vwCl [(h0, .inr (2, [.int v_x_awaited, .int v_x_askedNow, .int v_x_signNow, .int v_x_numberNow, .int v_x_digitsNow])), (pBk, .inr (1, [.ref y_clauses, .ref y_asked, .ref y_signs, .ref y_numbers, .ref y_paces])), (y_clauses, .inl (cI, 10, .inl f_y_clauses)), (y_asked, .inl (cI, 160, .inl f_y_asked)), (y_signs, .inl (cI, 160, .inl f_y_signs)), (y_numbers, .inl (cI, 160, .inl f_y_numbers)), (y_paces, .inl (cI, 160, .inl f_y_paces))] s.heap := hP
  have hl := lv_entry ([.ref h0, .int pN, .ref pBk]) (n := 3) (Nat.le_of_ble_eq_true rfl)
  rw [lg_entry_eq]
  generalize (lg_sl ([.ref h0, .int pN, .ref pBk]) ++ List.replicate (3 - (lg_sl ([.ref h0, .int pN, .ref pBk])).length) Slot.unset).toArray = ls at hl ⊢
  have hl : lv_has ls 3 [(0, .ref h0), (1, .int pN), (2, .ref pBk)] := hl
  refine lv_iload_n hx hb dX2_takesPace_0 rfl (lv_at hl 1 rfl) ?_
  have hPc := hP.sub (ws' := []) [] rfl
  have hDc := hD.sub (ws' := []) [] (by decide) rfl
  have hFc := va_free (wc := []) hD hS hA [] rfl
  refine va_calli (va_runS (As := [.int pN]) (rest := []) ⟨hx, hb, hml, hown, hts⟩ (c_X2_isDigit l dC dI cI cZ (s.heap).size pN pN_i pN_h) ⟨callB_of 1 hts (zz_good zw_479) rfl rfl rfl hw0 hw1 (by decide +kernel) ⟨Nat.le_of_ble_eq_true rfl, Nat.le_of_ble_eq_true rfl⟩, hw2⟩ ⟨fun a U g mk q => by obtain ⟨q0, q1, qP, qK, qD⟩ := q; exact ⟨q0, q1, qP, va_K.moved (u := U) (U := U.calling g mk a) (Vm.Alike.refl U.vm) qK, qD⟩, fun U hU hW => ⟨rfl, by rw [hU], by rw [hU]; exact hPc, va_K.moved hW.alike hK, hDc.weaken (fun _ _ _ _ => trivial)⟩⟩ rfl rfl hl.1 rfl (lv_room (Nat.le_of_ble_eq_true rfl)) dX2_takesPace_1 ⟨Nat.le_of_ble_eq_true rfl, Nat.le_of_ble_eq_true rfl⟩) hS (fun q _ h => hFc q h) hFc (fun r_1 u t H1 locs ht hvm hpost hB hz1 hk1 hS => ?_)
  subst hpost
  obtain ⟨hf_2, hP1, hK1, hD1⟩ := hB
  rw [ht] at hP1
  obtain ⟨hP, hD⟩ := va_join (wr := [(h0, .inr (2, [.int v_x_awaited, .int v_x_askedNow, .int v_x_signNow, .int v_x_numberNow, .int v_x_digitsNow])), (pBk, .inr (1, [.ref y_clauses, .ref y_asked, .ref y_signs, .ref y_numbers, .ref y_paces])), (y_clauses, .inl (cI, 10, .inl f_y_clauses)), (y_asked, .inl (cI, 160, .inl f_y_asked)), (y_signs, .inl (cI, 160, .inl f_y_signs)), (y_numbers, .inl (cI, 160, .inl f_y_numbers)), (y_paces, .inl (cI, 160, .inl f_y_paces))]) (w1 := []) hP hD [] [0, 1, 2, 3, 4, 5, 6] rfl rfl (by decide) (by decide) hk1 hFc hP1 hD1
  generalize H1 = H at hP hS ⊢
  have hP : va_P (dC, dI) vwCl [(h0, .inr (2, [.int v_x_awaited, .int v_x_askedNow, .int v_x_signNow, .int v_x_numberNow, .int v_x_digitsNow])), (pBk, .inr (1, [.ref y_clauses, .ref y_asked, .ref y_signs, .ref y_numbers, .ref y_paces])), (y_clauses, .inl (cI, 10, .inl f_y_clauses)), (y_asked, .inl (cI, 160, .inl f_y_asked)), (y_signs, .inl (cI, 160, .inl f_y_signs)), (y_numbers, .inl (cI, 160, .inl f_y_numbers)), (y_paces, .inl (cI, 160, .inl f_y_paces))] H := hP
  have hD : va_D A [(h0, .inr (2, [.int v_x_awaited, .int v_x_askedNow, .int v_x_signNow, .int v_x_numberNow, .int v_x_digitsNow])), (pBk, .inr (1, [.ref y_clauses, .ref y_asked, .ref y_signs, .ref y_numbers, .ref y_paces])), (y_clauses, .inl (cI, 10, .inl f_y_clauses)), (y_asked, .inl (cI, 160, .inl f_y_asked)), (y_signs, .inl (cI, 160, .inl f_y_signs)), (y_numbers, .inl (cI, 160, .inl f_y_numbers)), (y_paces, .inl (cI, 160, .inl f_y_paces))] := hD
  have hf_2 : (r_1 = 1 ∧ (48 ≤ pN_i ∧ pN_i ≤ 57)) ∨ (r_1 = 0 ∧ ¬ (48 ≤ pN_i ∧ pN_i ≤ 57)) := hf_2
  rcases hf_2 with ⟨rfl, hf_2⟩ | ⟨rfl, hf_2⟩
  ·
    refine lv_if_ne (tgt := 9) hx hb dX2_takesPace_4 (by decide) (fun c_3 => ?_) (fun c_3 => ?_)
    ·
      refine lv_aload_n hx hb dX2_takesPace_9 rfl (lv_at hl 2 rfl) ?_
      refine lv_aload_n hx hb dX2_takesPace_10 rfl (lv_at hl 0 rfl) ?_
      refine va_get (D := (dC, dI)) (ci := 2) (v := .int v_x_askedNow) (C := RX2) (T := TX2) (N := 5) hx hb hts hiX2 hown hK hP 0 rfl rfl 1 (by decide) hw3 (fun _ h9 => h9) rfl dX2_takesPace_11 ?_
      refine lv_aload_n hx hb dX2_takesPace_14 rfl (lv_at hl 0 rfl) ?_
      refine va_get (D := (dC, dI)) (ci := 2) (v := .int v_x_signNow) (C := RX2) (T := TX2) (N := 5) hx hb hts hiX2 hown hK hP 0 rfl rfl 2 (by decide) hw4 (fun _ h9 => h9) rfl dX2_takesPace_15 ?_
      refine lv_aload_n hx hb dX2_takesPace_18 rfl (lv_at hl 0 rfl) ?_
      refine va_get (D := (dC, dI)) (ci := 2) (v := .int v_x_numberNow) (C := RX2) (T := TX2) (N := 5) hx hb hts hiX2 hown hK hP 0 rfl rfl 3 (by decide) hw5 (fun _ h9 => h9) rfl dX2_takesPace_19 ?_
      refine lv_iload_n hx hb dX2_takesPace_22 rfl (lv_at hl 1 rfl) ?_
      refine lv_bipush (v := 48) hx hb dX2_takesPace_23 (by decide) ?_
      refine lv_isub hx hb dX2_takesPace_25 ?_
      refine lv_topi (fun v_4 ev_4 => ?_)
      have hv_4 : v_4.toInt = (pN_i - (48:Int)) := by rw [ev_4]; exact zz_subI pN_h (by decide) (by omega) (by omega)
      have hPc := hP.sub (ws' := [(pBk, .inr (1, [.ref y_clauses, .ref y_asked, .ref y_signs, .ref y_numbers, .ref y_paces])), (y_clauses, .inl (cI, 10, .inl f_y_clauses)), (y_asked, .inl (cI, 160, .inl f_y_asked)), (y_signs, .inl (cI, 160, .inl f_y_signs)), (y_numbers, .inl (cI, 160, .inl f_y_numbers)), (y_paces, .inl (cI, 160, .inl f_y_paces))]) [1, 2, 3, 4, 5, 6] rfl
      have hDc := hD.sub (ws' := [(pBk, .inr (1, [.ref y_clauses, .ref y_asked, .ref y_signs, .ref y_numbers, .ref y_paces])), (y_clauses, .inl (cI, 10, .inl f_y_clauses)), (y_asked, .inl (cI, 160, .inl f_y_asked)), (y_signs, .inl (cI, 160, .inl f_y_signs)), (y_numbers, .inl (cI, 160, .inl f_y_numbers)), (y_paces, .inl (cI, 160, .inl f_y_paces))]) [1, 2, 3, 4, 5, 6] (by decide) rfl
      have hFc := va_free (wc := [(pBk, .inr (1, [.ref y_clauses, .ref y_asked, .ref y_signs, .ref y_numbers, .ref y_paces])), (y_clauses, .inl (cI, 10, .inl f_y_clauses)), (y_asked, .inl (cI, 160, .inl f_y_asked)), (y_signs, .inl (cI, 160, .inl f_y_signs)), (y_numbers, .inl (cI, 160, .inl f_y_numbers)), (y_paces, .inl (cI, 160, .inl f_y_paces))]) hD hS hA [1, 2, 3, 4, 5, 6] rfl
      refine va_callv (va_runV (As := [.int v_x_askedNow, .int v_x_signNow, .int v_x_numberNow, .int v_4]) (rest := []) ⟨hx, hb, hml, hown, hts⟩ (c_X1_draftClause l dC dI cI cZ (H).size pBk v_x_askedNow v_x_askedNow_i v_x_askedNow_h (by omega) v_x_signNow v_x_signNow_i v_x_signNow_h v_x_numberNow v_x_numberNow_i v_x_numberNow_h v_4 (pN_i - (48:Int)) hv_4 (by omega) y_clauses y_asked y_signs y_numbers y_paces f_y_clauses R_y_clauses f_y_asked R_y_asked f_y_signs f_y_numbers f_y_paces R_y_paces) ⟨callB_of 4 hts (zz_good zw_491) rfl rfl rfl hw6 hw7 (by decide +kernel) ⟨Nat.le_of_ble_eq_true rfl, Nat.le_of_ble_eq_true rfl⟩, hw8, hw9⟩ ⟨fun a U g mk q => by obtain ⟨q0, q1, qP, qK, qD⟩ := q; exact ⟨q0, q1, qP, va_K.moved (u := U) (U := U.calling g mk a) (Vm.Alike.refl U.vm) qK, qD⟩, va_recv hK hPc (ci := 1) (q0 := 0) rfl rfl, fun U hU hW => ⟨rfl, by rw [hU], by rw [hU]; exact hPc, va_K.moved hW.alike hK, hDc.weaken (fun _ _ _ _ => trivial)⟩⟩ rfl rfl hl.1 rfl (lv_room (Nat.le_of_ble_eq_true rfl)) dX2_takesPace_26 ⟨Nat.le_of_ble_eq_true rfl, Nat.le_of_ble_eq_true rfl⟩) hS (fun q _ h => hFc q h) hFc (fun u t H1 locs ht hvm hpost hB hz1 hk1 hS => ?_)
      obtain ⟨g_x_clauses_5, g_x_asked_6, g_x_signs_7, g_x_numbers_8, g_x_paces_9, hf_10, hf_11, hf_12, hP1, hK1, hD1⟩ := hB
      rw [ht] at hP1
      obtain ⟨hP, hD⟩ := va_join (wr := [(h0, .inr (2, [.int v_x_awaited, .int v_x_askedNow, .int v_x_signNow, .int v_x_numberNow, .int v_x_digitsNow]))]) (w1 := [(pBk, .inr (1, [.ref y_clauses, .ref y_asked, .ref y_signs, .ref y_numbers, .ref y_paces])), (y_clauses, .inl (cI, 10, .inl g_x_clauses_5)), (y_asked, .inl (cI, 160, .inl g_x_asked_6)), (y_signs, .inl (cI, 160, .inl g_x_signs_7)), (y_numbers, .inl (cI, 160, .inl g_x_numbers_8)), (y_paces, .inl (cI, 160, .inl g_x_paces_9))]) hP hD [1, 2, 3, 4, 5, 6] [0] rfl rfl (by decide) (by decide) hk1 hFc hP1 hD1
      generalize H1 = H at hP hS ⊢
      have hP : va_P (dC, dI) vwCl [(h0, .inr (2, [.int v_x_awaited, .int v_x_askedNow, .int v_x_signNow, .int v_x_numberNow, .int v_x_digitsNow])), (pBk, .inr (1, [.ref y_clauses, .ref y_asked, .ref y_signs, .ref y_numbers, .ref y_paces])), (y_clauses, .inl (cI, 10, .inl g_x_clauses_5)), (y_asked, .inl (cI, 160, .inl g_x_asked_6)), (y_signs, .inl (cI, 160, .inl g_x_signs_7)), (y_numbers, .inl (cI, 160, .inl g_x_numbers_8)), (y_paces, .inl (cI, 160, .inl g_x_paces_9))] H := hP
      have hD : va_D A [(h0, .inr (2, [.int v_x_awaited, .int v_x_askedNow, .int v_x_signNow, .int v_x_numberNow, .int v_x_digitsNow])), (pBk, .inr (1, [.ref y_clauses, .ref y_asked, .ref y_signs, .ref y_numbers, .ref y_paces])), (y_clauses, .inl (cI, 10, .inl g_x_clauses_5)), (y_asked, .inl (cI, 160, .inl g_x_asked_6)), (y_signs, .inl (cI, 160, .inl g_x_signs_7)), (y_numbers, .inl (cI, 160, .inl g_x_numbers_8)), (y_paces, .inl (cI, 160, .inl g_x_paces_9))] := hD
      have hf_10 : zr g_x_clauses_5 10 (0) (16) := hf_10
      have hf_11 : zr g_x_asked_6 160 (0) (4) := hf_11
      have hf_12 : zr g_x_paces_9 160 (0) (9) := hf_12
      refine lv_aload_n hx hb dX2_takesPace_29 rfl (lv_at hl 0 rfl) ?_
      refine lv_bipush (v := 7) hx hb dX2_takesPace_30 (by decide) ?_
      refine va_put (D := (dC, dI)) (ci := 2) (v := .int 7) (ty := .int) (C := RX2) (T := TX2) (N := 5) hx hb hts hiX2 tyX2 tyX2_ok nmX2 hown hK hP hD hS 0 rfl rfl 0 (by decide) hw10 (fun _ h9 => h9) rfl (by decide +kernel) rfl rfl (Nat.le_of_ble_eq_true rfl) dX2_takesPace_32 (fun H locs hP hD hS => ?_)
      have hP : va_P (dC, dI) vwCl [(h0, .inr (2, [.int 7, .int v_x_askedNow, .int v_x_signNow, .int v_x_numberNow, .int v_x_digitsNow])), (pBk, .inr (1, [.ref y_clauses, .ref y_asked, .ref y_signs, .ref y_numbers, .ref y_paces])), (y_clauses, .inl (cI, 10, .inl g_x_clauses_5)), (y_asked, .inl (cI, 160, .inl g_x_asked_6)), (y_signs, .inl (cI, 160, .inl g_x_signs_7)), (y_numbers, .inl (cI, 160, .inl g_x_numbers_8)), (y_paces, .inl (cI, 160, .inl g_x_paces_9))] H := hP
      have hD : va_D A [(h0, .inr (2, [.int 7, .int v_x_askedNow, .int v_x_signNow, .int v_x_numberNow, .int v_x_digitsNow])), (pBk, .inr (1, [.ref y_clauses, .ref y_asked, .ref y_signs, .ref y_numbers, .ref y_paces])), (y_clauses, .inl (cI, 10, .inl g_x_clauses_5)), (y_asked, .inl (cI, 160, .inl g_x_asked_6)), (y_signs, .inl (cI, 160, .inl g_x_signs_7)), (y_numbers, .inl (cI, 160, .inl g_x_numbers_8)), (y_paces, .inl (cI, 160, .inl g_x_paces_9))] := hD
      refine lv_iconst (v := 1) hx hb dX2_takesPace_35 (by decide) ?_
      have hu9 : (1 : Int32).toInt = (1:Int) := (by decide)
      have hx9_w_h0_awaited : (7 : Int32).toInt = (7:Int) := (by decide)
      have hP9 := hP.sub (ws' := [(h0, .inr (2, [.int 7, .int v_x_askedNow, .int v_x_signNow, .int v_x_numberNow, .int v_x_digitsNow])), (pBk, .inr (1, [.ref y_clauses, .ref y_asked, .ref y_signs, .ref y_numbers, .ref y_paces])), (y_clauses, .inl (cI, 10, .inl g_x_clauses_5)), (y_asked, .inl (cI, 160, .inl g_x_asked_6)), (y_signs, .inl (cI, 160, .inl g_x_signs_7)), (y_numbers, .inl (cI, 160, .inl g_x_numbers_8)), (y_paces, .inl (cI, 160, .inl g_x_paces_9))]) [0, 1, 2, 3, 4, 5, 6] rfl
      have hD9 := hD.sub (ws' := [(h0, .inr (2, [.int 7, .int v_x_askedNow, .int v_x_signNow, .int v_x_numberNow, .int v_x_digitsNow])), (pBk, .inr (1, [.ref y_clauses, .ref y_asked, .ref y_signs, .ref y_numbers, .ref y_paces])), (y_clauses, .inl (cI, 10, .inl g_x_clauses_5)), (y_asked, .inl (cI, 160, .inl g_x_asked_6)), (y_signs, .inl (cI, 160, .inl g_x_signs_7)), (y_numbers, .inl (cI, 160, .inl g_x_numbers_8)), (y_paces, .inl (cI, 160, .inl g_x_paces_9))]) [0, 1, 2, 3, 4, 5, 6] (by decide) rfl
      have hf9_0 : ((1 : Int32) = 1 ∧ ((48 ≤ pN_i ∧ pN_i ≤ 57))) ∨ ((1 : Int32) = 0 ∧ ¬ ((48 ≤ pN_i ∧ pN_i ≤ 57))) := Or.inl ⟨rfl, by omega⟩
      have hf9_1 : ¬ (48 ≤ pN_i ∧ pN_i ≤ 57) ∨ (7 : Int32).toInt = 7 := by omega
      have hf9_2 : 0 ≤ (7 : Int32).toInt ∧ (7 : Int32).toInt ≤ 7 := by omega
      have hf9_3 : zr g_x_clauses_5 10 (0) (16) := hf_10
      have hf9_4 : zr g_x_asked_6 160 (0) (4) := hf_11
      have hf9_5 : zr g_x_paces_9 160 (0) (9) := hf_12
      exact W.zret (v := 1) hx hb hr rfl (fun t ht hW => ⟨⟨1, 1, rfl, rfl, (7 : Int32), g_x_clauses_5, g_x_asked_6, g_x_signs_7, g_x_numbers_8, g_x_paces_9, hf9_0, hf9_1, hf9_2, hf9_3, hf9_4, hf9_5, by rw [ht]; exact hP9, va_K.moved hW.alike hK, hD9⟩, hS.F ht⟩) hS.2.2 dX2_takesPace_36
    ·
      exact absurd c_3 (by decide)
  ·
    refine lv_if_ne (tgt := 9) hx hb dX2_takesPace_4 (by decide) (fun c_13 => ?_) (fun c_13 => ?_)
    ·
      exact absurd c_13 (by decide)
    ·
      refine lv_iconst (v := 0) hx hb dX2_takesPace_7 (by decide) ?_
      have hu9 : (0 : Int32).toInt = (0:Int) := (by decide)
      have hx9_w_h0_awaited : (v_x_awaited : Int32).toInt = v_x_awaited_i := v_x_awaited_h
      have hP9 := hP.sub (ws' := [(h0, .inr (2, [.int v_x_awaited, .int v_x_askedNow, .int v_x_signNow, .int v_x_numberNow, .int v_x_digitsNow])), (pBk, .inr (1, [.ref y_clauses, .ref y_asked, .ref y_signs, .ref y_numbers, .ref y_paces])), (y_clauses, .inl (cI, 10, .inl f_y_clauses)), (y_asked, .inl (cI, 160, .inl f_y_asked)), (y_signs, .inl (cI, 160, .inl f_y_signs)), (y_numbers, .inl (cI, 160, .inl f_y_numbers)), (y_paces, .inl (cI, 160, .inl f_y_paces))]) [0, 1, 2, 3, 4, 5, 6] rfl
      have hD9 := hD.sub (ws' := [(h0, .inr (2, [.int v_x_awaited, .int v_x_askedNow, .int v_x_signNow, .int v_x_numberNow, .int v_x_digitsNow])), (pBk, .inr (1, [.ref y_clauses, .ref y_asked, .ref y_signs, .ref y_numbers, .ref y_paces])), (y_clauses, .inl (cI, 10, .inl f_y_clauses)), (y_asked, .inl (cI, 160, .inl f_y_asked)), (y_signs, .inl (cI, 160, .inl f_y_signs)), (y_numbers, .inl (cI, 160, .inl f_y_numbers)), (y_paces, .inl (cI, 160, .inl f_y_paces))]) [0, 1, 2, 3, 4, 5, 6] (by decide) rfl
      have hf9_0 : ((0 : Int32) = 1 ∧ ((48 ≤ pN_i ∧ pN_i ≤ 57))) ∨ ((0 : Int32) = 0 ∧ ¬ ((48 ≤ pN_i ∧ pN_i ≤ 57))) := Or.inr ⟨rfl, by omega⟩
      have hf9_1 : ¬ (48 ≤ pN_i ∧ pN_i ≤ 57) ∨ v_x_awaited.toInt = 7 := by omega
      have hf9_2 : 0 ≤ v_x_awaited.toInt ∧ v_x_awaited.toInt ≤ 7 := by omega
      have hf9_3 : zr f_y_clauses 10 (0) (16) := R_y_clauses
      have hf9_4 : zr f_y_asked 160 (0) (4) := R_y_asked
      have hf9_5 : zr f_y_paces 160 (0) (9) := R_y_paces
      exact W.zret (v := 0) hx hb hr rfl (fun t ht hW => ⟨⟨0, 0, rfl, rfl, v_x_awaited, f_y_clauses, f_y_asked, f_y_signs, f_y_numbers, f_y_paces, hf9_0, hf9_1, hf9_2, hf9_3, hf9_4, hf9_5, by rw [ht]; exact hP9, va_K.moved hW.alike hK, hD9⟩, hS.F ht⟩) hS.2.2 dX2_takesPace_8

set_option maxHeartbeats 8000000 in
set_option maxRecDepth 100000 in
theorem c_X2_goesOn (l : Launch) (dC : Nat → ClassId) (dI : Nat → Nat → Nat) (cI cZ : ClassId) (sz : Nat) (h0 : Nat) (pN : Int32) (pN_i : Int) (pN_h : pN.toInt = pN_i) (pBk : Nat) (v_x_awaited : Int32) (v_x_awaited_i : Int) (v_x_awaited_h : v_x_awaited.toInt = v_x_awaited_i) (B_v_x_awaited : 0 ≤ v_x_awaited_i ∧ v_x_awaited_i ≤ 7) (v_x_askedNow : Int32) (v_x_askedNow_i : Int) (v_x_askedNow_h : v_x_askedNow.toInt = v_x_askedNow_i) (B_v_x_askedNow : 0 ≤ v_x_askedNow_i ∧ v_x_askedNow_i ≤ 4) (v_x_signNow : Int32) (v_x_signNow_i : Int) (v_x_signNow_h : v_x_signNow.toInt = v_x_signNow_i) (v_x_numberNow : Int32) (v_x_numberNow_i : Int) (v_x_numberNow_h : v_x_numberNow.toInt = v_x_numberNow_i) (v_x_digitsNow : Int32) (v_x_digitsNow_i : Int) (v_x_digitsNow_h : v_x_digitsNow.toInt = v_x_digitsNow_i) (B_v_x_digitsNow : 0 ≤ v_x_digitsNow_i ∧ v_x_digitsNow_i ≤ 3) (y_clauses : Nat) (y_asked : Nat) (y_signs : Nat) (y_numbers : Nat) (y_paces : Nat) (f_y_clauses : Nat → Int32) (R_y_clauses : zr f_y_clauses 10 (0) (16)) (f_y_asked : Nat → Int32) (R_y_asked : zr f_y_asked 160 (0) (4)) (f_y_signs : Nat → Int32) (f_y_numbers : Nat → Int32) (f_y_paces : Nat → Int32) (R_y_paces : zr f_y_paces 160 (0) (9)) : Met l yX2_goesOn (Cond.code yX2_goesOn cX2_goesOn 3 (some .boolean) :: lw_good) ({ frames := 3, cells := 0, slots := 0, locals := 62 }) (va_Pc [.ref h0, .int pN, .ref pBk] (fun U => U.heap.size = sz ∧ va_P (dC, dI) vwCl [(h0, .inr (2, [.int v_x_awaited, .int v_x_askedNow, .int v_x_signNow, .int v_x_numberNow, .int v_x_digitsNow])), (pBk, .inr (1, [.ref y_clauses, .ref y_asked, .ref y_signs, .ref y_numbers, .ref y_paces])), (y_clauses, .inl (cI, 10, .inl f_y_clauses)), (y_asked, .inl (cI, 160, .inl f_y_asked)), (y_signs, .inl (cI, 160, .inl f_y_signs)), (y_numbers, .inl (cI, 160, .inl f_y_numbers)), (y_paces, .inl (cI, 160, .inl f_y_paces))] U.heap ∧ va_K (dC, dI) vwCl [(cI, .int), (cZ, .boolean)] U ∧ va_D (fun _ => True) [(h0, .inr (2, [.int v_x_awaited, .int v_x_askedNow, .int v_x_signNow, .int v_x_numberNow, .int v_x_digitsNow])), (pBk, .inr (1, [.ref y_clauses, .ref y_asked, .ref y_signs, .ref y_numbers, .ref y_paces])), (y_clauses, .inl (cI, 10, .inl f_y_clauses)), (y_asked, .inl (cI, 160, .inl f_y_asked)), (y_signs, .inl (cI, 160, .inl f_y_signs)), (y_numbers, .inl (cI, 160, .inl f_y_numbers)), (y_paces, .inl (cI, 160, .inl f_y_paces))])) (va_Qi (fun (r u : Int32) => r = u) (fun u t => ∃ (w_h0_awaited : Int32) (w_h0_askedNow : Int32) (w_h0_signNow : Int32) (w_h0_numberNow : Int32) (w_h0_digitsNow : Int32) (g_y_clauses : Nat → Int32) (g_y_asked : Nat → Int32) (g_y_signs : Nat → Int32) (g_y_numbers : Nat → Int32) (g_y_paces : Nat → Int32), (zGO v_x_awaited_i v_x_digitsNow_i pN_i u.toInt w_h0_awaited.toInt w_h0_digitsNow.toInt) ∧ (0 ≤ u.toInt ∧ u.toInt ≤ 1) ∧ (0 ≤ w_h0_awaited.toInt ∧ w_h0_awaited.toInt ≤ 7) ∧ (0 ≤ w_h0_askedNow.toInt ∧ w_h0_askedNow.toInt ≤ 4) ∧ (0 ≤ w_h0_digitsNow.toInt ∧ w_h0_digitsNow.toInt ≤ 3) ∧ (zr g_y_clauses 10 (0) (16)) ∧ (zr g_y_asked 160 (0) (4)) ∧ (zr g_y_paces 160 (0) (9)) ∧ va_P (dC, dI) vwCl [(h0, .inr (2, [.int w_h0_awaited, .int w_h0_askedNow, .int w_h0_signNow, .int w_h0_numberNow, .int w_h0_digitsNow])), (pBk, .inr (1, [.ref y_clauses, .ref y_asked, .ref y_signs, .ref y_numbers, .ref y_paces])), (y_clauses, .inl (cI, 10, .inl g_y_clauses)), (y_asked, .inl (cI, 160, .inl g_y_asked)), (y_signs, .inl (cI, 160, .inl g_y_signs)), (y_numbers, .inl (cI, 160, .inl g_y_numbers)), (y_paces, .inl (cI, 160, .inl g_y_paces))] t.heap ∧ va_K (dC, dI) vwCl [(cI, .int), (cZ, .boolean)] t ∧ va_D (va_A [(h0, .inr (2, [.int v_x_awaited, .int v_x_askedNow, .int v_x_signNow, .int v_x_numberNow, .int v_x_digitsNow])), (pBk, .inr (1, [.ref y_clauses, .ref y_asked, .ref y_signs, .ref y_numbers, .ref y_paces])), (y_clauses, .inl (cI, 10, .inl f_y_clauses)), (y_asked, .inl (cI, 160, .inl f_y_asked)), (y_signs, .inl (cI, 160, .inl f_y_signs)), (y_numbers, .inl (cI, 160, .inl f_y_numbers)), (y_paces, .inl (cI, 160, .inl f_y_paces))] sz) [(h0, .inr (2, [.int w_h0_awaited, .int w_h0_askedNow, .int w_h0_signNow, .int w_h0_numberNow, .int w_h0_digitsNow])), (pBk, .inr (1, [.ref y_clauses, .ref y_asked, .ref y_signs, .ref y_numbers, .ref y_paces])), (y_clauses, .inl (cI, 10, .inl g_y_clauses)), (y_asked, .inl (cI, 160, .inl g_y_asked)), (y_signs, .inl (cI, 160, .inl g_y_signs)), (y_numbers, .inl (cI, 160, .inl g_y_numbers)), (y_paces, .inl (cI, 160, .inl g_y_paces))]) (va_A [(h0, .inr (2, [.int v_x_awaited, .int v_x_askedNow, .int v_x_signNow, .int v_x_numberNow, .int v_x_digitsNow])), (pBk, .inr (1, [.ref y_clauses, .ref y_asked, .ref y_signs, .ref y_numbers, .ref y_paces])), (y_clauses, .inl (cI, 10, .inl f_y_clauses)), (y_asked, .inl (cI, 160, .inl f_y_asked)), (y_signs, .inl (cI, 160, .inl f_y_signs)), (y_numbers, .inl (cI, 160, .inl f_y_numbers)), (y_paces, .inl (cI, 160, .inl f_y_paces))] sz)) 0 0 (va_A [(h0, .inr (2, [.int v_x_awaited, .int v_x_askedNow, .int v_x_signNow, .int v_x_numberNow, .int v_x_digitsNow])), (pBk, .inr (1, [.ref y_clauses, .ref y_asked, .ref y_signs, .ref y_numbers, .ref y_paces])), (y_clauses, .inl (cI, 10, .inl f_y_clauses)), (y_asked, .inl (cI, 160, .inl f_y_asked)), (y_signs, .inl (cI, 160, .inl f_y_signs)), (y_numbers, .inl (cI, 160, .inl f_y_numbers)), (y_paces, .inl (cI, 160, .inl f_y_paces))] sz) := by
  refine Met.ofW (cc := cX2_goesOn) (maxL := 3) (ret := (some .boolean)) (by decide) rfl ?_
  intro p e s m args below meth c s₁ B hml hv
  obtain ⟨rfl, hsz, hP, hK, hD0⟩ := hv
  have hx := B.exec
  have hb := B.bytes
  have hr := B.returns
  have hts := atoms_spec (ws := Cond.code yX2_goesOn cX2_goesOn 3 (some .boolean) :: lw_good) B.pre
  have hown : s.vm.findClass RX2 = some m.cls := findClass_of_methodNamed B.named
  have hlocks := B.notSynchronized
  have hiX2 : ∀ w ∈ wsX20, w ∈ (Cond.code yX2_goesOn cX2_goesOn 3 (some .boolean) :: lw_good) := fun w h => List.mem_cons_of_mem _ (zi_X2 w h)
  have hw0 := hts (.fieldLink RX2 11 "BunchRace$OrderReader" "awaited" "I") (List.mem_cons_of_mem _ zw_179)
  have hw1 := hts (.initialized RX2) (List.mem_cons_of_mem _ zw_53)
  have hw2 := hts (.methodLink RX2 58 yX2_takesMark) (List.mem_cons_of_mem _ zw_480)
  have hw3 := hts (.instanceMethod yX2_takesMark) (List.mem_cons_of_mem _ zw_482)
  have hw4 := hts (.selects RX2 yX2_takesMark yX2_takesMark) (List.mem_cons_of_mem _ zw_5)
  have hw5 := hts (.methodLink RX2 45 yX2_takesLetter) (List.mem_cons_of_mem _ zw_458)
  have hw6 := hts (.instanceMethod yX2_takesLetter) (List.mem_cons_of_mem _ zw_460)
  have hw7 := hts (.selects RX2 yX2_takesLetter yX2_takesLetter) (List.mem_cons_of_mem _ zw_1)
  have hw8 := hts (.methodLink RX2 49 yX2_takesSign) (List.mem_cons_of_mem _ zw_465)
  have hw9 := hts (.instanceMethod yX2_takesSign) (List.mem_cons_of_mem _ zw_467)
  have hw10 := hts (.selects RX2 yX2_takesSign yX2_takesSign) (List.mem_cons_of_mem _ zw_2)
  have hw11 := hts (.methodLink RX2 52 yX2_takesFirstDigit) (List.mem_cons_of_mem _ zw_469)
  have hw12 := hts (.instanceMethod yX2_takesFirstDigit) (List.mem_cons_of_mem _ zw_471)
  have hw13 := hts (.selects RX2 yX2_takesFirstDigit yX2_takesFirstDigit) (List.mem_cons_of_mem _ zw_3)
  have hw14 := hts (.methodLink RX2 55 yX2_takesDigit) (List.mem_cons_of_mem _ zw_473)
  have hw15 := hts (.instanceMethod yX2_takesDigit) (List.mem_cons_of_mem _ zw_475)
  have hw16 := hts (.selects RX2 yX2_takesDigit yX2_takesDigit) (List.mem_cons_of_mem _ zw_4)
  have hw17 := hts (.methodLink RX2 62 yX2_takesPace) (List.mem_cons_of_mem _ zw_484)
  have hw18 := hts (.instanceMethod yX2_takesPace) (List.mem_cons_of_mem _ zw_486)
  have hw19 := hts (.selects RX2 yX2_takesPace yX2_takesPace) (List.mem_cons_of_mem _ zw_6)
  subst hsz
  have hD := hD0.self (sz := s.heap.size)
  generalize hAe : va_A [(h0, .inr (2, [.int v_x_awaited, .int v_x_askedNow, .int v_x_signNow, .int v_x_numberNow, .int v_x_digitsNow])), (pBk, .inr (1, [.ref y_clauses, .ref y_asked, .ref y_signs, .ref y_numbers, .ref y_paces])), (y_clauses, .inl (cI, 10, .inl f_y_clauses)), (y_asked, .inl (cI, 160, .inl f_y_asked)), (y_signs, .inl (cI, 160, .inl f_y_signs)), (y_numbers, .inl (cI, 160, .inl f_y_numbers)), (y_paces, .inl (cI, 160, .inl f_y_paces))] s.heap.size = A at hD ⊢
  have hA : ∀ q : Nat, s.heap.size ≤ q → A q := fun q h => by rw [← hAe]; exact Or.inr h
  have hS : va_S A s.heap s.heap [] := va_S.rf
  have hP : va_P (dC, dI) vwCl [(h0, .inr (2, [.int v_x_awaited, .int v_x_askedNow, .int v_x_signNow, .int v_x_numberNow, .int v_x_digitsNow])), (pBk, .inr (1, [.ref y_clauses, .ref y_asked, .ref y_signs, .ref y_numbers, .ref y_paces])), (y_clauses, .inl (cI, 10, .inl f_y_clauses)), (y_asked, .inl (cI, 160, .inl f_y_asked)), (y_signs, .inl (cI, 160, .inl f_y_signs)), (y_numbers, .inl (cI, 160, .inl f_y_numbers)), (y_paces, .inl (cI, 160, .inl f_y_paces))] s.heap := hP
  have hl := lv_entry ([.ref h0, .int pN, .ref pBk]) (n := 3) (Nat.le_of_ble_eq_true rfl)
  rw [lg_entry_eq]
  generalize (lg_sl ([.ref h0, .int pN, .ref pBk]) ++ List.replicate (3 - (lg_sl ([.ref h0, .int pN, .ref pBk])).length) Slot.unset).toArray = ls at hl ⊢
  have hl : lv_has ls 3 [(0, .ref h0), (1, .int pN), (2, .ref pBk)] := hl
  refine lv_iload_n hx hb dX2_goesOn_0 rfl (lv_at hl 1 rfl) ?_
  refine lv_bipush (v := 32) hx hb dX2_goesOn_1 (by decide) ?_
  refine lv_icmp_ne (tgt := 21) hx hb dX2_goesOn_3 (by decide) (fun c_1 => ?_) (fun c_1 => ?_)
  ·
    have c_1 : ¬ (pN_i = (32:Int)) := zz_eqn pN_h (by decide) c_1
    refine lv_aload_n hx hb dX2_goesOn_21 rfl (lv_at hl 0 rfl) ?_
    refine va_get (D := (dC, dI)) (ci := 2) (v := .int v_x_awaited) (C := RX2) (T := TX2) (N := 5) hx hb hts hiX2 hown hK hP 0 rfl rfl 0 (by decide) hw0 (fun _ h9 => h9) rfl dX2_goesOn_22 ?_
    have hs_2 : (v_x_awaited : Int32).toInt = v_x_awaited_i := v_x_awaited_h
    rcases (show v_x_awaited_i < 0 ∨ 6 < v_x_awaited_i ∨ v_x_awaited_i = 0 ∨ v_x_awaited_i = 1 ∨ v_x_awaited_i = 2 ∨ v_x_awaited_i = 3 ∨ v_x_awaited_i = 4 ∨ v_x_awaited_i = 5 ∨ v_x_awaited_i = 6 by omega) with q_3 | q_3 | q_3 | q_3 | q_3 | q_3 | q_3 | q_3 | q_3
    ·
      refine lv_tableOut (tgt := 129) hx hb dX2_goesOn_25 (by rw [hs_2]; omega) (by decide) ?_
      refine lv_aload_n hx hb dX2_goesOn_129 rfl (lv_at hl 0 rfl) ?_
      refine lv_iload_n hx hb dX2_goesOn_130 rfl (lv_at hl 1 rfl) ?_
      refine lv_bipush (v := 59) hx hb dX2_goesOn_131 (by decide) ?_
      refine lv_iconst (v := 1) hx hb dX2_goesOn_133 (by decide) ?_
      have hPc := hP.sub (ws' := [(h0, .inr (2, [.int v_x_awaited, .int v_x_askedNow, .int v_x_signNow, .int v_x_numberNow, .int v_x_digitsNow]))]) [0] rfl
      have hDc := hD.sub (ws' := [(h0, .inr (2, [.int v_x_awaited, .int v_x_askedNow, .int v_x_signNow, .int v_x_numberNow, .int v_x_digitsNow]))]) [0] (by decide) rfl
      have hFc := va_free (wc := [(h0, .inr (2, [.int v_x_awaited, .int v_x_askedNow, .int v_x_signNow, .int v_x_numberNow, .int v_x_digitsNow]))]) hD hS hA [0] rfl
      refine va_calli (va_runV (As := [.int pN, .int 59, .int 1]) (rest := []) ⟨hx, hb, hml, hown, hts⟩ (c_X2_takesMark l dC dI cI cZ (s.heap).size h0 pN pN_i pN_h 59 (59:Int) (by decide) 1 (1:Int) (by decide) (by omega) v_x_awaited v_x_awaited_i v_x_awaited_h (by omega) v_x_askedNow v_x_askedNow_i v_x_askedNow_h (by omega) v_x_signNow v_x_signNow_i v_x_signNow_h v_x_numberNow v_x_numberNow_i v_x_numberNow_h v_x_digitsNow v_x_digitsNow_i v_x_digitsNow_h (by omega)) ⟨callB_of 3 hts (zz_good zw_483) rfl rfl rfl hw1 hw2 (by decide +kernel) ⟨Nat.le_of_ble_eq_true rfl, Nat.le_of_ble_eq_true rfl⟩, hw3, hw4⟩ ⟨fun a U g mk q => by obtain ⟨q0, q1, qP, qK, qD⟩ := q; exact ⟨q0, q1, qP, va_K.moved (u := U) (U := U.calling g mk a) (Vm.Alike.refl U.vm) qK, qD⟩, va_recv hK hPc (ci := 2) (q0 := 0) rfl rfl, fun U hU hW => ⟨rfl, by rw [hU], by rw [hU]; exact hPc, va_K.moved hW.alike hK, hDc.weaken (fun _ _ _ _ => trivial)⟩⟩ rfl rfl hl.1 rfl (lv_room (Nat.le_of_ble_eq_true rfl)) dX2_goesOn_134 ⟨Nat.le_of_ble_eq_true rfl, Nat.le_of_ble_eq_true rfl⟩) hS (fun q _ h => hFc q h) hFc (fun r_4 u t H1 locs ht hvm hpost hB hz1 hk1 hS => ?_)
      subst hpost
      obtain ⟨w_h0_awaited_5, hf_6, hf_7, hf_8, hP1, hK1, hD1⟩ := hB
      rw [ht] at hP1
      obtain ⟨hP, hD⟩ := va_join (wr := [(pBk, .inr (1, [.ref y_clauses, .ref y_asked, .ref y_signs, .ref y_numbers, .ref y_paces])), (y_clauses, .inl (cI, 10, .inl f_y_clauses)), (y_asked, .inl (cI, 160, .inl f_y_asked)), (y_signs, .inl (cI, 160, .inl f_y_signs)), (y_numbers, .inl (cI, 160, .inl f_y_numbers)), (y_paces, .inl (cI, 160, .inl f_y_paces))]) (w1 := [(h0, .inr (2, [.int w_h0_awaited_5, .int v_x_askedNow, .int v_x_signNow, .int v_x_numberNow, .int v_x_digitsNow]))]) hP hD [0] [1, 2, 3, 4, 5, 6] rfl rfl (by decide) (by decide) hk1 hFc hP1 hD1
      generalize H1 = H at hP hS ⊢
      have hP : va_P (dC, dI) vwCl [(pBk, .inr (1, [.ref y_clauses, .ref y_asked, .ref y_signs, .ref y_numbers, .ref y_paces])), (y_clauses, .inl (cI, 10, .inl f_y_clauses)), (y_asked, .inl (cI, 160, .inl f_y_asked)), (y_signs, .inl (cI, 160, .inl f_y_signs)), (y_numbers, .inl (cI, 160, .inl f_y_numbers)), (y_paces, .inl (cI, 160, .inl f_y_paces)), (h0, .inr (2, [.int w_h0_awaited_5, .int v_x_askedNow, .int v_x_signNow, .int v_x_numberNow, .int v_x_digitsNow]))] H := hP
      have hD : va_D A [(pBk, .inr (1, [.ref y_clauses, .ref y_asked, .ref y_signs, .ref y_numbers, .ref y_paces])), (y_clauses, .inl (cI, 10, .inl f_y_clauses)), (y_asked, .inl (cI, 160, .inl f_y_asked)), (y_signs, .inl (cI, 160, .inl f_y_signs)), (y_numbers, .inl (cI, 160, .inl f_y_numbers)), (y_paces, .inl (cI, 160, .inl f_y_paces)), (h0, .inr (2, [.int w_h0_awaited_5, .int v_x_askedNow, .int v_x_signNow, .int v_x_numberNow, .int v_x_digitsNow]))] := hD
      have hf_6 : (r_4 = 1 ∧ (pN_i = (59:Int))) ∨ (r_4 = 0 ∧ ¬ (pN_i = (59:Int))) := hf_6
      have hf_7 : ¬ pN_i = (59:Int) ∨ w_h0_awaited_5.toInt = (1:Int) := hf_7
      have hf_8 : 0 ≤ w_h0_awaited_5.toInt ∧ w_h0_awaited_5.toInt ≤ 7 := hf_8
      rcases hf_6 with ⟨rfl, hf_6⟩ | ⟨rfl, hf_6⟩
      ·
        have hu9 : (1 : Int32).toInt = (1:Int) := (by decide)
        have hx9_w_h0_awaited : (w_h0_awaited_5 : Int32).toInt = (w_h0_awaited_5).toInt := rfl
        have hx9_w_h0_askedNow : (v_x_askedNow : Int32).toInt = v_x_askedNow_i := v_x_askedNow_h
        have hx9_w_h0_signNow : (v_x_signNow : Int32).toInt = v_x_signNow_i := v_x_signNow_h
        have hx9_w_h0_numberNow : (v_x_numberNow : Int32).toInt = v_x_numberNow_i := v_x_numberNow_h
        have hx9_w_h0_digitsNow : (v_x_digitsNow : Int32).toInt = v_x_digitsNow_i := v_x_digitsNow_h
        have hP9 := hP.sub (ws' := [(h0, .inr (2, [.int w_h0_awaited_5, .int v_x_askedNow, .int v_x_signNow, .int v_x_numberNow, .int v_x_digitsNow])), (pBk, .inr (1, [.ref y_clauses, .ref y_asked, .ref y_signs, .ref y_numbers, .ref y_paces])), (y_clauses, .inl (cI, 10, .inl f_y_clauses)), (y_asked, .inl (cI, 160, .inl f_y_asked)), (y_signs, .inl (cI, 160, .inl f_y_signs)), (y_numbers, .inl (cI, 160, .inl f_y_numbers)), (y_paces, .inl (cI, 160, .inl f_y_paces))]) [6, 0, 1, 2, 3, 4, 5] rfl
        have hD9 := hD.sub (ws' := [(h0, .inr (2, [.int w_h0_awaited_5, .int v_x_askedNow, .int v_x_signNow, .int v_x_numberNow, .int v_x_digitsNow])), (pBk, .inr (1, [.ref y_clauses, .ref y_asked, .ref y_signs, .ref y_numbers, .ref y_paces])), (y_clauses, .inl (cI, 10, .inl f_y_clauses)), (y_asked, .inl (cI, 160, .inl f_y_asked)), (y_signs, .inl (cI, 160, .inl f_y_signs)), (y_numbers, .inl (cI, 160, .inl f_y_numbers)), (y_paces, .inl (cI, 160, .inl f_y_paces))]) [6, 0, 1, 2, 3, 4, 5] (by decide) rfl
        have hf9_0 : zGO v_x_awaited_i v_x_digitsNow_i pN_i (1 : Int32).toInt w_h0_awaited_5.toInt v_x_digitsNow.toInt := by first | exact zGO_bl4 (by omega) | exact zGO_bl (by omega) | exact zGO_let (by omega) | exact zGO_letn (by omega) | exact zGO_sig (by omega) | exact zGO_sign (by omega) | exact zGO_num (by omega) | exact zGO_numn (by omega) | exact zGO_mor (by omega) | exact zGO_mor58 (by omega) | exact zGO_morn (by omega) | exact zGO_col (by omega) | exact zGO_coln (by omega) | exact zGO_pac (by omega) | exact zGO_pacn (by omega) | exact zGO_nxt (by omega) | exact zGO_nxtn (by omega)
        have hf9_1 : 0 ≤ (1 : Int32).toInt ∧ (1 : Int32).toInt ≤ 1 := by omega
        have hf9_2 : 0 ≤ w_h0_awaited_5.toInt ∧ w_h0_awaited_5.toInt ≤ 7 := by omega
        have hf9_3 : 0 ≤ v_x_askedNow.toInt ∧ v_x_askedNow.toInt ≤ 4 := by omega
        have hf9_4 : 0 ≤ v_x_digitsNow.toInt ∧ v_x_digitsNow.toInt ≤ 3 := by omega
        have hf9_5 : zr f_y_clauses 10 (0) (16) := R_y_clauses
        have hf9_6 : zr f_y_asked 160 (0) (4) := R_y_asked
        have hf9_7 : zr f_y_paces 160 (0) (9) := R_y_paces
        exact W.zret (v := 1) hx hb hr rfl (fun t ht hW => ⟨⟨1, 1, rfl, rfl, w_h0_awaited_5, v_x_askedNow, v_x_signNow, v_x_numberNow, v_x_digitsNow, f_y_clauses, f_y_asked, f_y_signs, f_y_numbers, f_y_paces, hf9_0, hf9_1, hf9_2, hf9_3, hf9_4, hf9_5, hf9_6, hf9_7, by rw [ht]; exact hP9, va_K.moved hW.alike hK, hD9⟩, hS.F ht⟩) hS.2.2 dX2_goesOn_137
      ·
        have hu9 : (0 : Int32).toInt = (0:Int) := (by decide)
        have hx9_w_h0_awaited : (w_h0_awaited_5 : Int32).toInt = (w_h0_awaited_5).toInt := rfl
        have hx9_w_h0_askedNow : (v_x_askedNow : Int32).toInt = v_x_askedNow_i := v_x_askedNow_h
        have hx9_w_h0_signNow : (v_x_signNow : Int32).toInt = v_x_signNow_i := v_x_signNow_h
        have hx9_w_h0_numberNow : (v_x_numberNow : Int32).toInt = v_x_numberNow_i := v_x_numberNow_h
        have hx9_w_h0_digitsNow : (v_x_digitsNow : Int32).toInt = v_x_digitsNow_i := v_x_digitsNow_h
        have hP9 := hP.sub (ws' := [(h0, .inr (2, [.int w_h0_awaited_5, .int v_x_askedNow, .int v_x_signNow, .int v_x_numberNow, .int v_x_digitsNow])), (pBk, .inr (1, [.ref y_clauses, .ref y_asked, .ref y_signs, .ref y_numbers, .ref y_paces])), (y_clauses, .inl (cI, 10, .inl f_y_clauses)), (y_asked, .inl (cI, 160, .inl f_y_asked)), (y_signs, .inl (cI, 160, .inl f_y_signs)), (y_numbers, .inl (cI, 160, .inl f_y_numbers)), (y_paces, .inl (cI, 160, .inl f_y_paces))]) [6, 0, 1, 2, 3, 4, 5] rfl
        have hD9 := hD.sub (ws' := [(h0, .inr (2, [.int w_h0_awaited_5, .int v_x_askedNow, .int v_x_signNow, .int v_x_numberNow, .int v_x_digitsNow])), (pBk, .inr (1, [.ref y_clauses, .ref y_asked, .ref y_signs, .ref y_numbers, .ref y_paces])), (y_clauses, .inl (cI, 10, .inl f_y_clauses)), (y_asked, .inl (cI, 160, .inl f_y_asked)), (y_signs, .inl (cI, 160, .inl f_y_signs)), (y_numbers, .inl (cI, 160, .inl f_y_numbers)), (y_paces, .inl (cI, 160, .inl f_y_paces))]) [6, 0, 1, 2, 3, 4, 5] (by decide) rfl
        have hf9_0 : zGO v_x_awaited_i v_x_digitsNow_i pN_i (0 : Int32).toInt w_h0_awaited_5.toInt v_x_digitsNow.toInt := by first | exact zGO_bl4 (by omega) | exact zGO_bl (by omega) | exact zGO_let (by omega) | exact zGO_letn (by omega) | exact zGO_sig (by omega) | exact zGO_sign (by omega) | exact zGO_num (by omega) | exact zGO_numn (by omega) | exact zGO_mor (by omega) | exact zGO_mor58 (by omega) | exact zGO_morn (by omega) | exact zGO_col (by omega) | exact zGO_coln (by omega) | exact zGO_pac (by omega) | exact zGO_pacn (by omega) | exact zGO_nxt (by omega) | exact zGO_nxtn (by omega)
        have hf9_1 : 0 ≤ (0 : Int32).toInt ∧ (0 : Int32).toInt ≤ 1 := by omega
        have hf9_2 : 0 ≤ w_h0_awaited_5.toInt ∧ w_h0_awaited_5.toInt ≤ 7 := by omega
        have hf9_3 : 0 ≤ v_x_askedNow.toInt ∧ v_x_askedNow.toInt ≤ 4 := by omega
        have hf9_4 : 0 ≤ v_x_digitsNow.toInt ∧ v_x_digitsNow.toInt ≤ 3 := by omega
        have hf9_5 : zr f_y_clauses 10 (0) (16) := R_y_clauses
        have hf9_6 : zr f_y_asked 160 (0) (4) := R_y_asked
        have hf9_7 : zr f_y_paces 160 (0) (9) := R_y_paces
        exact W.zret (v := 0) hx hb hr rfl (fun t ht hW => ⟨⟨0, 0, rfl, rfl, w_h0_awaited_5, v_x_askedNow, v_x_signNow, v_x_numberNow, v_x_digitsNow, f_y_clauses, f_y_asked, f_y_signs, f_y_numbers, f_y_paces, hf9_0, hf9_1, hf9_2, hf9_3, hf9_4, hf9_5, hf9_6, hf9_7, by rw [ht]; exact hP9, va_K.moved hW.alike hK, hD9⟩, hS.F ht⟩) hS.2.2 dX2_goesOn_137
    ·
      refine lv_tableOut (tgt := 129) hx hb dX2_goesOn_25 (by rw [hs_2]; omega) (by decide) ?_
      refine lv_aload_n hx hb dX2_goesOn_129 rfl (lv_at hl 0 rfl) ?_
      refine lv_iload_n hx hb dX2_goesOn_130 rfl (lv_at hl 1 rfl) ?_
      refine lv_bipush (v := 59) hx hb dX2_goesOn_131 (by decide) ?_
      refine lv_iconst (v := 1) hx hb dX2_goesOn_133 (by decide) ?_
      have hPc := hP.sub (ws' := [(h0, .inr (2, [.int v_x_awaited, .int v_x_askedNow, .int v_x_signNow, .int v_x_numberNow, .int v_x_digitsNow]))]) [0] rfl
      have hDc := hD.sub (ws' := [(h0, .inr (2, [.int v_x_awaited, .int v_x_askedNow, .int v_x_signNow, .int v_x_numberNow, .int v_x_digitsNow]))]) [0] (by decide) rfl
      have hFc := va_free (wc := [(h0, .inr (2, [.int v_x_awaited, .int v_x_askedNow, .int v_x_signNow, .int v_x_numberNow, .int v_x_digitsNow]))]) hD hS hA [0] rfl
      refine va_calli (va_runV (As := [.int pN, .int 59, .int 1]) (rest := []) ⟨hx, hb, hml, hown, hts⟩ (c_X2_takesMark l dC dI cI cZ (s.heap).size h0 pN pN_i pN_h 59 (59:Int) (by decide) 1 (1:Int) (by decide) (by omega) v_x_awaited v_x_awaited_i v_x_awaited_h (by omega) v_x_askedNow v_x_askedNow_i v_x_askedNow_h (by omega) v_x_signNow v_x_signNow_i v_x_signNow_h v_x_numberNow v_x_numberNow_i v_x_numberNow_h v_x_digitsNow v_x_digitsNow_i v_x_digitsNow_h (by omega)) ⟨callB_of 3 hts (zz_good zw_483) rfl rfl rfl hw1 hw2 (by decide +kernel) ⟨Nat.le_of_ble_eq_true rfl, Nat.le_of_ble_eq_true rfl⟩, hw3, hw4⟩ ⟨fun a U g mk q => by obtain ⟨q0, q1, qP, qK, qD⟩ := q; exact ⟨q0, q1, qP, va_K.moved (u := U) (U := U.calling g mk a) (Vm.Alike.refl U.vm) qK, qD⟩, va_recv hK hPc (ci := 2) (q0 := 0) rfl rfl, fun U hU hW => ⟨rfl, by rw [hU], by rw [hU]; exact hPc, va_K.moved hW.alike hK, hDc.weaken (fun _ _ _ _ => trivial)⟩⟩ rfl rfl hl.1 rfl (lv_room (Nat.le_of_ble_eq_true rfl)) dX2_goesOn_134 ⟨Nat.le_of_ble_eq_true rfl, Nat.le_of_ble_eq_true rfl⟩) hS (fun q _ h => hFc q h) hFc (fun r_9 u t H1 locs ht hvm hpost hB hz1 hk1 hS => ?_)
      subst hpost
      obtain ⟨w_h0_awaited_10, hf_11, hf_12, hf_13, hP1, hK1, hD1⟩ := hB
      rw [ht] at hP1
      obtain ⟨hP, hD⟩ := va_join (wr := [(pBk, .inr (1, [.ref y_clauses, .ref y_asked, .ref y_signs, .ref y_numbers, .ref y_paces])), (y_clauses, .inl (cI, 10, .inl f_y_clauses)), (y_asked, .inl (cI, 160, .inl f_y_asked)), (y_signs, .inl (cI, 160, .inl f_y_signs)), (y_numbers, .inl (cI, 160, .inl f_y_numbers)), (y_paces, .inl (cI, 160, .inl f_y_paces))]) (w1 := [(h0, .inr (2, [.int w_h0_awaited_10, .int v_x_askedNow, .int v_x_signNow, .int v_x_numberNow, .int v_x_digitsNow]))]) hP hD [0] [1, 2, 3, 4, 5, 6] rfl rfl (by decide) (by decide) hk1 hFc hP1 hD1
      generalize H1 = H at hP hS ⊢
      have hP : va_P (dC, dI) vwCl [(pBk, .inr (1, [.ref y_clauses, .ref y_asked, .ref y_signs, .ref y_numbers, .ref y_paces])), (y_clauses, .inl (cI, 10, .inl f_y_clauses)), (y_asked, .inl (cI, 160, .inl f_y_asked)), (y_signs, .inl (cI, 160, .inl f_y_signs)), (y_numbers, .inl (cI, 160, .inl f_y_numbers)), (y_paces, .inl (cI, 160, .inl f_y_paces)), (h0, .inr (2, [.int w_h0_awaited_10, .int v_x_askedNow, .int v_x_signNow, .int v_x_numberNow, .int v_x_digitsNow]))] H := hP
      have hD : va_D A [(pBk, .inr (1, [.ref y_clauses, .ref y_asked, .ref y_signs, .ref y_numbers, .ref y_paces])), (y_clauses, .inl (cI, 10, .inl f_y_clauses)), (y_asked, .inl (cI, 160, .inl f_y_asked)), (y_signs, .inl (cI, 160, .inl f_y_signs)), (y_numbers, .inl (cI, 160, .inl f_y_numbers)), (y_paces, .inl (cI, 160, .inl f_y_paces)), (h0, .inr (2, [.int w_h0_awaited_10, .int v_x_askedNow, .int v_x_signNow, .int v_x_numberNow, .int v_x_digitsNow]))] := hD
      have hf_11 : (r_9 = 1 ∧ (pN_i = (59:Int))) ∨ (r_9 = 0 ∧ ¬ (pN_i = (59:Int))) := hf_11
      have hf_12 : ¬ pN_i = (59:Int) ∨ w_h0_awaited_10.toInt = (1:Int) := hf_12
      have hf_13 : 0 ≤ w_h0_awaited_10.toInt ∧ w_h0_awaited_10.toInt ≤ 7 := hf_13
      rcases hf_11 with ⟨rfl, hf_11⟩ | ⟨rfl, hf_11⟩
      ·
        have hu9 : (1 : Int32).toInt = (1:Int) := (by decide)
        have hx9_w_h0_awaited : (w_h0_awaited_10 : Int32).toInt = (w_h0_awaited_10).toInt := rfl
        have hx9_w_h0_askedNow : (v_x_askedNow : Int32).toInt = v_x_askedNow_i := v_x_askedNow_h
        have hx9_w_h0_signNow : (v_x_signNow : Int32).toInt = v_x_signNow_i := v_x_signNow_h
        have hx9_w_h0_numberNow : (v_x_numberNow : Int32).toInt = v_x_numberNow_i := v_x_numberNow_h
        have hx9_w_h0_digitsNow : (v_x_digitsNow : Int32).toInt = v_x_digitsNow_i := v_x_digitsNow_h
        have hP9 := hP.sub (ws' := [(h0, .inr (2, [.int w_h0_awaited_10, .int v_x_askedNow, .int v_x_signNow, .int v_x_numberNow, .int v_x_digitsNow])), (pBk, .inr (1, [.ref y_clauses, .ref y_asked, .ref y_signs, .ref y_numbers, .ref y_paces])), (y_clauses, .inl (cI, 10, .inl f_y_clauses)), (y_asked, .inl (cI, 160, .inl f_y_asked)), (y_signs, .inl (cI, 160, .inl f_y_signs)), (y_numbers, .inl (cI, 160, .inl f_y_numbers)), (y_paces, .inl (cI, 160, .inl f_y_paces))]) [6, 0, 1, 2, 3, 4, 5] rfl
        have hD9 := hD.sub (ws' := [(h0, .inr (2, [.int w_h0_awaited_10, .int v_x_askedNow, .int v_x_signNow, .int v_x_numberNow, .int v_x_digitsNow])), (pBk, .inr (1, [.ref y_clauses, .ref y_asked, .ref y_signs, .ref y_numbers, .ref y_paces])), (y_clauses, .inl (cI, 10, .inl f_y_clauses)), (y_asked, .inl (cI, 160, .inl f_y_asked)), (y_signs, .inl (cI, 160, .inl f_y_signs)), (y_numbers, .inl (cI, 160, .inl f_y_numbers)), (y_paces, .inl (cI, 160, .inl f_y_paces))]) [6, 0, 1, 2, 3, 4, 5] (by decide) rfl
        have hf9_0 : zGO v_x_awaited_i v_x_digitsNow_i pN_i (1 : Int32).toInt w_h0_awaited_10.toInt v_x_digitsNow.toInt := by first | exact zGO_bl4 (by omega) | exact zGO_bl (by omega) | exact zGO_let (by omega) | exact zGO_letn (by omega) | exact zGO_sig (by omega) | exact zGO_sign (by omega) | exact zGO_num (by omega) | exact zGO_numn (by omega) | exact zGO_mor (by omega) | exact zGO_mor58 (by omega) | exact zGO_morn (by omega) | exact zGO_col (by omega) | exact zGO_coln (by omega) | exact zGO_pac (by omega) | exact zGO_pacn (by omega) | exact zGO_nxt (by omega) | exact zGO_nxtn (by omega)
        have hf9_1 : 0 ≤ (1 : Int32).toInt ∧ (1 : Int32).toInt ≤ 1 := by omega
        have hf9_2 : 0 ≤ w_h0_awaited_10.toInt ∧ w_h0_awaited_10.toInt ≤ 7 := by omega
        have hf9_3 : 0 ≤ v_x_askedNow.toInt ∧ v_x_askedNow.toInt ≤ 4 := by omega
        have hf9_4 : 0 ≤ v_x_digitsNow.toInt ∧ v_x_digitsNow.toInt ≤ 3 := by omega
        have hf9_5 : zr f_y_clauses 10 (0) (16) := R_y_clauses
        have hf9_6 : zr f_y_asked 160 (0) (4) := R_y_asked
        have hf9_7 : zr f_y_paces 160 (0) (9) := R_y_paces
        exact W.zret (v := 1) hx hb hr rfl (fun t ht hW => ⟨⟨1, 1, rfl, rfl, w_h0_awaited_10, v_x_askedNow, v_x_signNow, v_x_numberNow, v_x_digitsNow, f_y_clauses, f_y_asked, f_y_signs, f_y_numbers, f_y_paces, hf9_0, hf9_1, hf9_2, hf9_3, hf9_4, hf9_5, hf9_6, hf9_7, by rw [ht]; exact hP9, va_K.moved hW.alike hK, hD9⟩, hS.F ht⟩) hS.2.2 dX2_goesOn_137
      ·
        have hu9 : (0 : Int32).toInt = (0:Int) := (by decide)
        have hx9_w_h0_awaited : (w_h0_awaited_10 : Int32).toInt = (w_h0_awaited_10).toInt := rfl
        have hx9_w_h0_askedNow : (v_x_askedNow : Int32).toInt = v_x_askedNow_i := v_x_askedNow_h
        have hx9_w_h0_signNow : (v_x_signNow : Int32).toInt = v_x_signNow_i := v_x_signNow_h
        have hx9_w_h0_numberNow : (v_x_numberNow : Int32).toInt = v_x_numberNow_i := v_x_numberNow_h
        have hx9_w_h0_digitsNow : (v_x_digitsNow : Int32).toInt = v_x_digitsNow_i := v_x_digitsNow_h
        have hP9 := hP.sub (ws' := [(h0, .inr (2, [.int w_h0_awaited_10, .int v_x_askedNow, .int v_x_signNow, .int v_x_numberNow, .int v_x_digitsNow])), (pBk, .inr (1, [.ref y_clauses, .ref y_asked, .ref y_signs, .ref y_numbers, .ref y_paces])), (y_clauses, .inl (cI, 10, .inl f_y_clauses)), (y_asked, .inl (cI, 160, .inl f_y_asked)), (y_signs, .inl (cI, 160, .inl f_y_signs)), (y_numbers, .inl (cI, 160, .inl f_y_numbers)), (y_paces, .inl (cI, 160, .inl f_y_paces))]) [6, 0, 1, 2, 3, 4, 5] rfl
        have hD9 := hD.sub (ws' := [(h0, .inr (2, [.int w_h0_awaited_10, .int v_x_askedNow, .int v_x_signNow, .int v_x_numberNow, .int v_x_digitsNow])), (pBk, .inr (1, [.ref y_clauses, .ref y_asked, .ref y_signs, .ref y_numbers, .ref y_paces])), (y_clauses, .inl (cI, 10, .inl f_y_clauses)), (y_asked, .inl (cI, 160, .inl f_y_asked)), (y_signs, .inl (cI, 160, .inl f_y_signs)), (y_numbers, .inl (cI, 160, .inl f_y_numbers)), (y_paces, .inl (cI, 160, .inl f_y_paces))]) [6, 0, 1, 2, 3, 4, 5] (by decide) rfl
        have hf9_0 : zGO v_x_awaited_i v_x_digitsNow_i pN_i (0 : Int32).toInt w_h0_awaited_10.toInt v_x_digitsNow.toInt := by first | exact zGO_bl4 (by omega) | exact zGO_bl (by omega) | exact zGO_let (by omega) | exact zGO_letn (by omega) | exact zGO_sig (by omega) | exact zGO_sign (by omega) | exact zGO_num (by omega) | exact zGO_numn (by omega) | exact zGO_mor (by omega) | exact zGO_mor58 (by omega) | exact zGO_morn (by omega) | exact zGO_col (by omega) | exact zGO_coln (by omega) | exact zGO_pac (by omega) | exact zGO_pacn (by omega) | exact zGO_nxt (by omega) | exact zGO_nxtn (by omega)
        have hf9_1 : 0 ≤ (0 : Int32).toInt ∧ (0 : Int32).toInt ≤ 1 := by omega
        have hf9_2 : 0 ≤ w_h0_awaited_10.toInt ∧ w_h0_awaited_10.toInt ≤ 7 := by omega
        have hf9_3 : 0 ≤ v_x_askedNow.toInt ∧ v_x_askedNow.toInt ≤ 4 := by omega
        have hf9_4 : 0 ≤ v_x_digitsNow.toInt ∧ v_x_digitsNow.toInt ≤ 3 := by omega
        have hf9_5 : zr f_y_clauses 10 (0) (16) := R_y_clauses
        have hf9_6 : zr f_y_asked 160 (0) (4) := R_y_asked
        have hf9_7 : zr f_y_paces 160 (0) (9) := R_y_paces
        exact W.zret (v := 0) hx hb hr rfl (fun t ht hW => ⟨⟨0, 0, rfl, rfl, w_h0_awaited_10, v_x_askedNow, v_x_signNow, v_x_numberNow, v_x_digitsNow, f_y_clauses, f_y_asked, f_y_signs, f_y_numbers, f_y_paces, hf9_0, hf9_1, hf9_2, hf9_3, hf9_4, hf9_5, hf9_6, hf9_7, by rw [ht]; exact hP9, va_K.moved hW.alike hK, hD9⟩, hS.F ht⟩) hS.2.2 dX2_goesOn_137
    ·
      refine lv_tableIn (tgt := 68) (off := 43) hx hb dX2_goesOn_25 (by rw [hs_2]; omega) (by rw [hs_2]; omega) (by rw [hs_2, q_3]; rfl) (by decide) ?_
      refine lv_aload_n hx hb dX2_goesOn_68 rfl (lv_at hl 0 rfl) ?_
      refine lv_iload_n hx hb dX2_goesOn_69 rfl (lv_at hl 1 rfl) ?_
      have hPc := hP.sub (ws' := [(h0, .inr (2, [.int v_x_awaited, .int v_x_askedNow, .int v_x_signNow, .int v_x_numberNow, .int v_x_digitsNow]))]) [0] rfl
      have hDc := hD.sub (ws' := [(h0, .inr (2, [.int v_x_awaited, .int v_x_askedNow, .int v_x_signNow, .int v_x_numberNow, .int v_x_digitsNow]))]) [0] (by decide) rfl
      have hFc := va_free (wc := [(h0, .inr (2, [.int v_x_awaited, .int v_x_askedNow, .int v_x_signNow, .int v_x_numberNow, .int v_x_digitsNow]))]) hD hS hA [0] rfl
      refine va_calli (va_runV (As := [.int pN]) (rest := []) ⟨hx, hb, hml, hown, hts⟩ (c_X2_takesLetter l dC dI cI cZ (s.heap).size h0 pN pN_i pN_h v_x_awaited v_x_awaited_i v_x_awaited_h (by omega) v_x_askedNow v_x_askedNow_i v_x_askedNow_h (by omega) v_x_signNow v_x_signNow_i v_x_signNow_h v_x_numberNow v_x_numberNow_i v_x_numberNow_h v_x_digitsNow v_x_digitsNow_i v_x_digitsNow_h (by omega)) ⟨callB_of 1 hts (zz_good zw_461) rfl rfl rfl hw1 hw5 (by decide +kernel) ⟨Nat.le_of_ble_eq_true rfl, Nat.le_of_ble_eq_true rfl⟩, hw6, hw7⟩ ⟨fun a U g mk q => by obtain ⟨q0, q1, qP, qK, qD⟩ := q; exact ⟨q0, q1, qP, va_K.moved (u := U) (U := U.calling g mk a) (Vm.Alike.refl U.vm) qK, qD⟩, va_recv hK hPc (ci := 2) (q0 := 0) rfl rfl, fun U hU hW => ⟨rfl, by rw [hU], by rw [hU]; exact hPc, va_K.moved hW.alike hK, hDc.weaken (fun _ _ _ _ => trivial)⟩⟩ rfl rfl hl.1 rfl (lv_room (Nat.le_of_ble_eq_true rfl)) dX2_goesOn_70 ⟨Nat.le_of_ble_eq_true rfl, Nat.le_of_ble_eq_true rfl⟩) hS (fun q _ h => hFc q h) hFc (fun r_14 u t H1 locs ht hvm hpost hB hz1 hk1 hS => ?_)
      subst hpost
      obtain ⟨w_h0_awaited_15, w_h0_askedNow_16, hf_17, hf_18, hf_19, hf_20, hP1, hK1, hD1⟩ := hB
      rw [ht] at hP1
      obtain ⟨hP, hD⟩ := va_join (wr := [(pBk, .inr (1, [.ref y_clauses, .ref y_asked, .ref y_signs, .ref y_numbers, .ref y_paces])), (y_clauses, .inl (cI, 10, .inl f_y_clauses)), (y_asked, .inl (cI, 160, .inl f_y_asked)), (y_signs, .inl (cI, 160, .inl f_y_signs)), (y_numbers, .inl (cI, 160, .inl f_y_numbers)), (y_paces, .inl (cI, 160, .inl f_y_paces))]) (w1 := [(h0, .inr (2, [.int w_h0_awaited_15, .int w_h0_askedNow_16, .int v_x_signNow, .int v_x_numberNow, .int v_x_digitsNow]))]) hP hD [0] [1, 2, 3, 4, 5, 6] rfl rfl (by decide) (by decide) hk1 hFc hP1 hD1
      generalize H1 = H at hP hS ⊢
      have hP : va_P (dC, dI) vwCl [(pBk, .inr (1, [.ref y_clauses, .ref y_asked, .ref y_signs, .ref y_numbers, .ref y_paces])), (y_clauses, .inl (cI, 10, .inl f_y_clauses)), (y_asked, .inl (cI, 160, .inl f_y_asked)), (y_signs, .inl (cI, 160, .inl f_y_signs)), (y_numbers, .inl (cI, 160, .inl f_y_numbers)), (y_paces, .inl (cI, 160, .inl f_y_paces)), (h0, .inr (2, [.int w_h0_awaited_15, .int w_h0_askedNow_16, .int v_x_signNow, .int v_x_numberNow, .int v_x_digitsNow]))] H := hP
      have hD : va_D A [(pBk, .inr (1, [.ref y_clauses, .ref y_asked, .ref y_signs, .ref y_numbers, .ref y_paces])), (y_clauses, .inl (cI, 10, .inl f_y_clauses)), (y_asked, .inl (cI, 160, .inl f_y_asked)), (y_signs, .inl (cI, 160, .inl f_y_signs)), (y_numbers, .inl (cI, 160, .inl f_y_numbers)), (y_paces, .inl (cI, 160, .inl f_y_paces)), (h0, .inr (2, [.int w_h0_awaited_15, .int w_h0_askedNow_16, .int v_x_signNow, .int v_x_numberNow, .int v_x_digitsNow]))] := hD
      have hf_17 : (r_14 = 1 ∧ ((pN_i = 115 ∨ pN_i = 107 ∨ pN_i = 103 ∨ pN_i = 110 ∨ pN_i = 112))) ∨ (r_14 = 0 ∧ ¬ ((pN_i = 115 ∨ pN_i = 107 ∨ pN_i = 103 ∨ pN_i = 110 ∨ pN_i = 112))) := hf_17
      have hf_18 : ¬ (pN_i = 115 ∨ pN_i = 107 ∨ pN_i = 103 ∨ pN_i = 110 ∨ pN_i = 112) ∨ w_h0_awaited_15.toInt = 2 := hf_18
      have hf_19 : 0 ≤ w_h0_awaited_15.toInt ∧ w_h0_awaited_15.toInt ≤ 7 := hf_19
      have hf_20 : 0 ≤ w_h0_askedNow_16.toInt ∧ w_h0_askedNow_16.toInt ≤ 4 := hf_20
      rcases hf_17 with ⟨rfl, hf_17⟩ | ⟨rfl, hf_17⟩
      ·
        have hu9 : (1 : Int32).toInt = (1:Int) := (by decide)
        have hx9_w_h0_awaited : (w_h0_awaited_15 : Int32).toInt = (w_h0_awaited_15).toInt := rfl
        have hx9_w_h0_askedNow : (w_h0_askedNow_16 : Int32).toInt = (w_h0_askedNow_16).toInt := rfl
        have hx9_w_h0_signNow : (v_x_signNow : Int32).toInt = v_x_signNow_i := v_x_signNow_h
        have hx9_w_h0_numberNow : (v_x_numberNow : Int32).toInt = v_x_numberNow_i := v_x_numberNow_h
        have hx9_w_h0_digitsNow : (v_x_digitsNow : Int32).toInt = v_x_digitsNow_i := v_x_digitsNow_h
        have hP9 := hP.sub (ws' := [(h0, .inr (2, [.int w_h0_awaited_15, .int w_h0_askedNow_16, .int v_x_signNow, .int v_x_numberNow, .int v_x_digitsNow])), (pBk, .inr (1, [.ref y_clauses, .ref y_asked, .ref y_signs, .ref y_numbers, .ref y_paces])), (y_clauses, .inl (cI, 10, .inl f_y_clauses)), (y_asked, .inl (cI, 160, .inl f_y_asked)), (y_signs, .inl (cI, 160, .inl f_y_signs)), (y_numbers, .inl (cI, 160, .inl f_y_numbers)), (y_paces, .inl (cI, 160, .inl f_y_paces))]) [6, 0, 1, 2, 3, 4, 5] rfl
        have hD9 := hD.sub (ws' := [(h0, .inr (2, [.int w_h0_awaited_15, .int w_h0_askedNow_16, .int v_x_signNow, .int v_x_numberNow, .int v_x_digitsNow])), (pBk, .inr (1, [.ref y_clauses, .ref y_asked, .ref y_signs, .ref y_numbers, .ref y_paces])), (y_clauses, .inl (cI, 10, .inl f_y_clauses)), (y_asked, .inl (cI, 160, .inl f_y_asked)), (y_signs, .inl (cI, 160, .inl f_y_signs)), (y_numbers, .inl (cI, 160, .inl f_y_numbers)), (y_paces, .inl (cI, 160, .inl f_y_paces))]) [6, 0, 1, 2, 3, 4, 5] (by decide) rfl
        have hf9_0 : zGO v_x_awaited_i v_x_digitsNow_i pN_i (1 : Int32).toInt w_h0_awaited_15.toInt v_x_digitsNow.toInt := by first | exact zGO_bl4 (by omega) | exact zGO_bl (by omega) | exact zGO_let (by omega) | exact zGO_letn (by omega) | exact zGO_sig (by omega) | exact zGO_sign (by omega) | exact zGO_num (by omega) | exact zGO_numn (by omega) | exact zGO_mor (by omega) | exact zGO_mor58 (by omega) | exact zGO_morn (by omega) | exact zGO_col (by omega) | exact zGO_coln (by omega) | exact zGO_pac (by omega) | exact zGO_pacn (by omega) | exact zGO_nxt (by omega) | exact zGO_nxtn (by omega)
        have hf9_1 : 0 ≤ (1 : Int32).toInt ∧ (1 : Int32).toInt ≤ 1 := by omega
        have hf9_2 : 0 ≤ w_h0_awaited_15.toInt ∧ w_h0_awaited_15.toInt ≤ 7 := by omega
        have hf9_3 : 0 ≤ w_h0_askedNow_16.toInt ∧ w_h0_askedNow_16.toInt ≤ 4 := by omega
        have hf9_4 : 0 ≤ v_x_digitsNow.toInt ∧ v_x_digitsNow.toInt ≤ 3 := by omega
        have hf9_5 : zr f_y_clauses 10 (0) (16) := R_y_clauses
        have hf9_6 : zr f_y_asked 160 (0) (4) := R_y_asked
        have hf9_7 : zr f_y_paces 160 (0) (9) := R_y_paces
        exact W.zret (v := 1) hx hb hr rfl (fun t ht hW => ⟨⟨1, 1, rfl, rfl, w_h0_awaited_15, w_h0_askedNow_16, v_x_signNow, v_x_numberNow, v_x_digitsNow, f_y_clauses, f_y_asked, f_y_signs, f_y_numbers, f_y_paces, hf9_0, hf9_1, hf9_2, hf9_3, hf9_4, hf9_5, hf9_6, hf9_7, by rw [ht]; exact hP9, va_K.moved hW.alike hK, hD9⟩, hS.F ht⟩) hS.2.2 dX2_goesOn_73
      ·
        have hu9 : (0 : Int32).toInt = (0:Int) := (by decide)
        have hx9_w_h0_awaited : (w_h0_awaited_15 : Int32).toInt = (w_h0_awaited_15).toInt := rfl
        have hx9_w_h0_askedNow : (w_h0_askedNow_16 : Int32).toInt = (w_h0_askedNow_16).toInt := rfl
        have hx9_w_h0_signNow : (v_x_signNow : Int32).toInt = v_x_signNow_i := v_x_signNow_h
        have hx9_w_h0_numberNow : (v_x_numberNow : Int32).toInt = v_x_numberNow_i := v_x_numberNow_h
        have hx9_w_h0_digitsNow : (v_x_digitsNow : Int32).toInt = v_x_digitsNow_i := v_x_digitsNow_h
        have hP9 := hP.sub (ws' := [(h0, .inr (2, [.int w_h0_awaited_15, .int w_h0_askedNow_16, .int v_x_signNow, .int v_x_numberNow, .int v_x_digitsNow])), (pBk, .inr (1, [.ref y_clauses, .ref y_asked, .ref y_signs, .ref y_numbers, .ref y_paces])), (y_clauses, .inl (cI, 10, .inl f_y_clauses)), (y_asked, .inl (cI, 160, .inl f_y_asked)), (y_signs, .inl (cI, 160, .inl f_y_signs)), (y_numbers, .inl (cI, 160, .inl f_y_numbers)), (y_paces, .inl (cI, 160, .inl f_y_paces))]) [6, 0, 1, 2, 3, 4, 5] rfl
        have hD9 := hD.sub (ws' := [(h0, .inr (2, [.int w_h0_awaited_15, .int w_h0_askedNow_16, .int v_x_signNow, .int v_x_numberNow, .int v_x_digitsNow])), (pBk, .inr (1, [.ref y_clauses, .ref y_asked, .ref y_signs, .ref y_numbers, .ref y_paces])), (y_clauses, .inl (cI, 10, .inl f_y_clauses)), (y_asked, .inl (cI, 160, .inl f_y_asked)), (y_signs, .inl (cI, 160, .inl f_y_signs)), (y_numbers, .inl (cI, 160, .inl f_y_numbers)), (y_paces, .inl (cI, 160, .inl f_y_paces))]) [6, 0, 1, 2, 3, 4, 5] (by decide) rfl
        have hf9_0 : zGO v_x_awaited_i v_x_digitsNow_i pN_i (0 : Int32).toInt w_h0_awaited_15.toInt v_x_digitsNow.toInt := by first | exact zGO_bl4 (by omega) | exact zGO_bl (by omega) | exact zGO_let (by omega) | exact zGO_letn (by omega) | exact zGO_sig (by omega) | exact zGO_sign (by omega) | exact zGO_num (by omega) | exact zGO_numn (by omega) | exact zGO_mor (by omega) | exact zGO_mor58 (by omega) | exact zGO_morn (by omega) | exact zGO_col (by omega) | exact zGO_coln (by omega) | exact zGO_pac (by omega) | exact zGO_pacn (by omega) | exact zGO_nxt (by omega) | exact zGO_nxtn (by omega)
        have hf9_1 : 0 ≤ (0 : Int32).toInt ∧ (0 : Int32).toInt ≤ 1 := by omega
        have hf9_2 : 0 ≤ w_h0_awaited_15.toInt ∧ w_h0_awaited_15.toInt ≤ 7 := by omega
        have hf9_3 : 0 ≤ w_h0_askedNow_16.toInt ∧ w_h0_askedNow_16.toInt ≤ 4 := by omega
        have hf9_4 : 0 ≤ v_x_digitsNow.toInt ∧ v_x_digitsNow.toInt ≤ 3 := by omega
        have hf9_5 : zr f_y_clauses 10 (0) (16) := R_y_clauses
        have hf9_6 : zr f_y_asked 160 (0) (4) := R_y_asked
        have hf9_7 : zr f_y_paces 160 (0) (9) := R_y_paces
        exact W.zret (v := 0) hx hb hr rfl (fun t ht hW => ⟨⟨0, 0, rfl, rfl, w_h0_awaited_15, w_h0_askedNow_16, v_x_signNow, v_x_numberNow, v_x_digitsNow, f_y_clauses, f_y_asked, f_y_signs, f_y_numbers, f_y_paces, hf9_0, hf9_1, hf9_2, hf9_3, hf9_4, hf9_5, hf9_6, hf9_7, by rw [ht]; exact hP9, va_K.moved hW.alike hK, hD9⟩, hS.F ht⟩) hS.2.2 dX2_goesOn_73
    ·
      refine lv_tableIn (tgt := 68) (off := 43) hx hb dX2_goesOn_25 (by rw [hs_2]; omega) (by rw [hs_2]; omega) (by rw [hs_2, q_3]; rfl) (by decide) ?_
      refine lv_aload_n hx hb dX2_goesOn_68 rfl (lv_at hl 0 rfl) ?_
      refine lv_iload_n hx hb dX2_goesOn_69 rfl (lv_at hl 1 rfl) ?_
      have hPc := hP.sub (ws' := [(h0, .inr (2, [.int v_x_awaited, .int v_x_askedNow, .int v_x_signNow, .int v_x_numberNow, .int v_x_digitsNow]))]) [0] rfl
      have hDc := hD.sub (ws' := [(h0, .inr (2, [.int v_x_awaited, .int v_x_askedNow, .int v_x_signNow, .int v_x_numberNow, .int v_x_digitsNow]))]) [0] (by decide) rfl
      have hFc := va_free (wc := [(h0, .inr (2, [.int v_x_awaited, .int v_x_askedNow, .int v_x_signNow, .int v_x_numberNow, .int v_x_digitsNow]))]) hD hS hA [0] rfl
      refine va_calli (va_runV (As := [.int pN]) (rest := []) ⟨hx, hb, hml, hown, hts⟩ (c_X2_takesLetter l dC dI cI cZ (s.heap).size h0 pN pN_i pN_h v_x_awaited v_x_awaited_i v_x_awaited_h (by omega) v_x_askedNow v_x_askedNow_i v_x_askedNow_h (by omega) v_x_signNow v_x_signNow_i v_x_signNow_h v_x_numberNow v_x_numberNow_i v_x_numberNow_h v_x_digitsNow v_x_digitsNow_i v_x_digitsNow_h (by omega)) ⟨callB_of 1 hts (zz_good zw_461) rfl rfl rfl hw1 hw5 (by decide +kernel) ⟨Nat.le_of_ble_eq_true rfl, Nat.le_of_ble_eq_true rfl⟩, hw6, hw7⟩ ⟨fun a U g mk q => by obtain ⟨q0, q1, qP, qK, qD⟩ := q; exact ⟨q0, q1, qP, va_K.moved (u := U) (U := U.calling g mk a) (Vm.Alike.refl U.vm) qK, qD⟩, va_recv hK hPc (ci := 2) (q0 := 0) rfl rfl, fun U hU hW => ⟨rfl, by rw [hU], by rw [hU]; exact hPc, va_K.moved hW.alike hK, hDc.weaken (fun _ _ _ _ => trivial)⟩⟩ rfl rfl hl.1 rfl (lv_room (Nat.le_of_ble_eq_true rfl)) dX2_goesOn_70 ⟨Nat.le_of_ble_eq_true rfl, Nat.le_of_ble_eq_true rfl⟩) hS (fun q _ h => hFc q h) hFc (fun r_21 u t H1 locs ht hvm hpost hB hz1 hk1 hS => ?_)
      subst hpost
      obtain ⟨w_h0_awaited_22, w_h0_askedNow_23, hf_24, hf_25, hf_26, hf_27, hP1, hK1, hD1⟩ := hB
      rw [ht] at hP1
      obtain ⟨hP, hD⟩ := va_join (wr := [(pBk, .inr (1, [.ref y_clauses, .ref y_asked, .ref y_signs, .ref y_numbers, .ref y_paces])), (y_clauses, .inl (cI, 10, .inl f_y_clauses)), (y_asked, .inl (cI, 160, .inl f_y_asked)), (y_signs, .inl (cI, 160, .inl f_y_signs)), (y_numbers, .inl (cI, 160, .inl f_y_numbers)), (y_paces, .inl (cI, 160, .inl f_y_paces))]) (w1 := [(h0, .inr (2, [.int w_h0_awaited_22, .int w_h0_askedNow_23, .int v_x_signNow, .int v_x_numberNow, .int v_x_digitsNow]))]) hP hD [0] [1, 2, 3, 4, 5, 6] rfl rfl (by decide) (by decide) hk1 hFc hP1 hD1
      generalize H1 = H at hP hS ⊢
      have hP : va_P (dC, dI) vwCl [(pBk, .inr (1, [.ref y_clauses, .ref y_asked, .ref y_signs, .ref y_numbers, .ref y_paces])), (y_clauses, .inl (cI, 10, .inl f_y_clauses)), (y_asked, .inl (cI, 160, .inl f_y_asked)), (y_signs, .inl (cI, 160, .inl f_y_signs)), (y_numbers, .inl (cI, 160, .inl f_y_numbers)), (y_paces, .inl (cI, 160, .inl f_y_paces)), (h0, .inr (2, [.int w_h0_awaited_22, .int w_h0_askedNow_23, .int v_x_signNow, .int v_x_numberNow, .int v_x_digitsNow]))] H := hP
      have hD : va_D A [(pBk, .inr (1, [.ref y_clauses, .ref y_asked, .ref y_signs, .ref y_numbers, .ref y_paces])), (y_clauses, .inl (cI, 10, .inl f_y_clauses)), (y_asked, .inl (cI, 160, .inl f_y_asked)), (y_signs, .inl (cI, 160, .inl f_y_signs)), (y_numbers, .inl (cI, 160, .inl f_y_numbers)), (y_paces, .inl (cI, 160, .inl f_y_paces)), (h0, .inr (2, [.int w_h0_awaited_22, .int w_h0_askedNow_23, .int v_x_signNow, .int v_x_numberNow, .int v_x_digitsNow]))] := hD
      have hf_24 : (r_21 = 1 ∧ ((pN_i = 115 ∨ pN_i = 107 ∨ pN_i = 103 ∨ pN_i = 110 ∨ pN_i = 112))) ∨ (r_21 = 0 ∧ ¬ ((pN_i = 115 ∨ pN_i = 107 ∨ pN_i = 103 ∨ pN_i = 110 ∨ pN_i = 112))) := hf_24
      have hf_25 : ¬ (pN_i = 115 ∨ pN_i = 107 ∨ pN_i = 103 ∨ pN_i = 110 ∨ pN_i = 112) ∨ w_h0_awaited_22.toInt = 2 := hf_25
      have hf_26 : 0 ≤ w_h0_awaited_22.toInt ∧ w_h0_awaited_22.toInt ≤ 7 := hf_26
      have hf_27 : 0 ≤ w_h0_askedNow_23.toInt ∧ w_h0_askedNow_23.toInt ≤ 4 := hf_27
      rcases hf_24 with ⟨rfl, hf_24⟩ | ⟨rfl, hf_24⟩
      ·
        have hu9 : (1 : Int32).toInt = (1:Int) := (by decide)
        have hx9_w_h0_awaited : (w_h0_awaited_22 : Int32).toInt = (w_h0_awaited_22).toInt := rfl
        have hx9_w_h0_askedNow : (w_h0_askedNow_23 : Int32).toInt = (w_h0_askedNow_23).toInt := rfl
        have hx9_w_h0_signNow : (v_x_signNow : Int32).toInt = v_x_signNow_i := v_x_signNow_h
        have hx9_w_h0_numberNow : (v_x_numberNow : Int32).toInt = v_x_numberNow_i := v_x_numberNow_h
        have hx9_w_h0_digitsNow : (v_x_digitsNow : Int32).toInt = v_x_digitsNow_i := v_x_digitsNow_h
        have hP9 := hP.sub (ws' := [(h0, .inr (2, [.int w_h0_awaited_22, .int w_h0_askedNow_23, .int v_x_signNow, .int v_x_numberNow, .int v_x_digitsNow])), (pBk, .inr (1, [.ref y_clauses, .ref y_asked, .ref y_signs, .ref y_numbers, .ref y_paces])), (y_clauses, .inl (cI, 10, .inl f_y_clauses)), (y_asked, .inl (cI, 160, .inl f_y_asked)), (y_signs, .inl (cI, 160, .inl f_y_signs)), (y_numbers, .inl (cI, 160, .inl f_y_numbers)), (y_paces, .inl (cI, 160, .inl f_y_paces))]) [6, 0, 1, 2, 3, 4, 5] rfl
        have hD9 := hD.sub (ws' := [(h0, .inr (2, [.int w_h0_awaited_22, .int w_h0_askedNow_23, .int v_x_signNow, .int v_x_numberNow, .int v_x_digitsNow])), (pBk, .inr (1, [.ref y_clauses, .ref y_asked, .ref y_signs, .ref y_numbers, .ref y_paces])), (y_clauses, .inl (cI, 10, .inl f_y_clauses)), (y_asked, .inl (cI, 160, .inl f_y_asked)), (y_signs, .inl (cI, 160, .inl f_y_signs)), (y_numbers, .inl (cI, 160, .inl f_y_numbers)), (y_paces, .inl (cI, 160, .inl f_y_paces))]) [6, 0, 1, 2, 3, 4, 5] (by decide) rfl
        have hf9_0 : zGO v_x_awaited_i v_x_digitsNow_i pN_i (1 : Int32).toInt w_h0_awaited_22.toInt v_x_digitsNow.toInt := by first | exact zGO_bl4 (by omega) | exact zGO_bl (by omega) | exact zGO_let (by omega) | exact zGO_letn (by omega) | exact zGO_sig (by omega) | exact zGO_sign (by omega) | exact zGO_num (by omega) | exact zGO_numn (by omega) | exact zGO_mor (by omega) | exact zGO_mor58 (by omega) | exact zGO_morn (by omega) | exact zGO_col (by omega) | exact zGO_coln (by omega) | exact zGO_pac (by omega) | exact zGO_pacn (by omega) | exact zGO_nxt (by omega) | exact zGO_nxtn (by omega)
        have hf9_1 : 0 ≤ (1 : Int32).toInt ∧ (1 : Int32).toInt ≤ 1 := by omega
        have hf9_2 : 0 ≤ w_h0_awaited_22.toInt ∧ w_h0_awaited_22.toInt ≤ 7 := by omega
        have hf9_3 : 0 ≤ w_h0_askedNow_23.toInt ∧ w_h0_askedNow_23.toInt ≤ 4 := by omega
        have hf9_4 : 0 ≤ v_x_digitsNow.toInt ∧ v_x_digitsNow.toInt ≤ 3 := by omega
        have hf9_5 : zr f_y_clauses 10 (0) (16) := R_y_clauses
        have hf9_6 : zr f_y_asked 160 (0) (4) := R_y_asked
        have hf9_7 : zr f_y_paces 160 (0) (9) := R_y_paces
        exact W.zret (v := 1) hx hb hr rfl (fun t ht hW => ⟨⟨1, 1, rfl, rfl, w_h0_awaited_22, w_h0_askedNow_23, v_x_signNow, v_x_numberNow, v_x_digitsNow, f_y_clauses, f_y_asked, f_y_signs, f_y_numbers, f_y_paces, hf9_0, hf9_1, hf9_2, hf9_3, hf9_4, hf9_5, hf9_6, hf9_7, by rw [ht]; exact hP9, va_K.moved hW.alike hK, hD9⟩, hS.F ht⟩) hS.2.2 dX2_goesOn_73
      ·
        have hu9 : (0 : Int32).toInt = (0:Int) := (by decide)
        have hx9_w_h0_awaited : (w_h0_awaited_22 : Int32).toInt = (w_h0_awaited_22).toInt := rfl
        have hx9_w_h0_askedNow : (w_h0_askedNow_23 : Int32).toInt = (w_h0_askedNow_23).toInt := rfl
        have hx9_w_h0_signNow : (v_x_signNow : Int32).toInt = v_x_signNow_i := v_x_signNow_h
        have hx9_w_h0_numberNow : (v_x_numberNow : Int32).toInt = v_x_numberNow_i := v_x_numberNow_h
        have hx9_w_h0_digitsNow : (v_x_digitsNow : Int32).toInt = v_x_digitsNow_i := v_x_digitsNow_h
        have hP9 := hP.sub (ws' := [(h0, .inr (2, [.int w_h0_awaited_22, .int w_h0_askedNow_23, .int v_x_signNow, .int v_x_numberNow, .int v_x_digitsNow])), (pBk, .inr (1, [.ref y_clauses, .ref y_asked, .ref y_signs, .ref y_numbers, .ref y_paces])), (y_clauses, .inl (cI, 10, .inl f_y_clauses)), (y_asked, .inl (cI, 160, .inl f_y_asked)), (y_signs, .inl (cI, 160, .inl f_y_signs)), (y_numbers, .inl (cI, 160, .inl f_y_numbers)), (y_paces, .inl (cI, 160, .inl f_y_paces))]) [6, 0, 1, 2, 3, 4, 5] rfl
        have hD9 := hD.sub (ws' := [(h0, .inr (2, [.int w_h0_awaited_22, .int w_h0_askedNow_23, .int v_x_signNow, .int v_x_numberNow, .int v_x_digitsNow])), (pBk, .inr (1, [.ref y_clauses, .ref y_asked, .ref y_signs, .ref y_numbers, .ref y_paces])), (y_clauses, .inl (cI, 10, .inl f_y_clauses)), (y_asked, .inl (cI, 160, .inl f_y_asked)), (y_signs, .inl (cI, 160, .inl f_y_signs)), (y_numbers, .inl (cI, 160, .inl f_y_numbers)), (y_paces, .inl (cI, 160, .inl f_y_paces))]) [6, 0, 1, 2, 3, 4, 5] (by decide) rfl
        have hf9_0 : zGO v_x_awaited_i v_x_digitsNow_i pN_i (0 : Int32).toInt w_h0_awaited_22.toInt v_x_digitsNow.toInt := by first | exact zGO_bl4 (by omega) | exact zGO_bl (by omega) | exact zGO_let (by omega) | exact zGO_letn (by omega) | exact zGO_sig (by omega) | exact zGO_sign (by omega) | exact zGO_num (by omega) | exact zGO_numn (by omega) | exact zGO_mor (by omega) | exact zGO_mor58 (by omega) | exact zGO_morn (by omega) | exact zGO_col (by omega) | exact zGO_coln (by omega) | exact zGO_pac (by omega) | exact zGO_pacn (by omega) | exact zGO_nxt (by omega) | exact zGO_nxtn (by omega)
        have hf9_1 : 0 ≤ (0 : Int32).toInt ∧ (0 : Int32).toInt ≤ 1 := by omega
        have hf9_2 : 0 ≤ w_h0_awaited_22.toInt ∧ w_h0_awaited_22.toInt ≤ 7 := by omega
        have hf9_3 : 0 ≤ w_h0_askedNow_23.toInt ∧ w_h0_askedNow_23.toInt ≤ 4 := by omega
        have hf9_4 : 0 ≤ v_x_digitsNow.toInt ∧ v_x_digitsNow.toInt ≤ 3 := by omega
        have hf9_5 : zr f_y_clauses 10 (0) (16) := R_y_clauses
        have hf9_6 : zr f_y_asked 160 (0) (4) := R_y_asked
        have hf9_7 : zr f_y_paces 160 (0) (9) := R_y_paces
        exact W.zret (v := 0) hx hb hr rfl (fun t ht hW => ⟨⟨0, 0, rfl, rfl, w_h0_awaited_22, w_h0_askedNow_23, v_x_signNow, v_x_numberNow, v_x_digitsNow, f_y_clauses, f_y_asked, f_y_signs, f_y_numbers, f_y_paces, hf9_0, hf9_1, hf9_2, hf9_3, hf9_4, hf9_5, hf9_6, hf9_7, by rw [ht]; exact hP9, va_K.moved hW.alike hK, hD9⟩, hS.F ht⟩) hS.2.2 dX2_goesOn_73
    ·
      refine lv_tableIn (tgt := 74) (off := 49) hx hb dX2_goesOn_25 (by rw [hs_2]; omega) (by rw [hs_2]; omega) (by rw [hs_2, q_3]; rfl) (by decide) ?_
      refine lv_aload_n hx hb dX2_goesOn_74 rfl (lv_at hl 0 rfl) ?_
      refine lv_iload_n hx hb dX2_goesOn_75 rfl (lv_at hl 1 rfl) ?_
      have hPc := hP.sub (ws' := [(h0, .inr (2, [.int v_x_awaited, .int v_x_askedNow, .int v_x_signNow, .int v_x_numberNow, .int v_x_digitsNow]))]) [0] rfl
      have hDc := hD.sub (ws' := [(h0, .inr (2, [.int v_x_awaited, .int v_x_askedNow, .int v_x_signNow, .int v_x_numberNow, .int v_x_digitsNow]))]) [0] (by decide) rfl
      have hFc := va_free (wc := [(h0, .inr (2, [.int v_x_awaited, .int v_x_askedNow, .int v_x_signNow, .int v_x_numberNow, .int v_x_digitsNow]))]) hD hS hA [0] rfl
      refine va_calli (va_runV (As := [.int pN]) (rest := []) ⟨hx, hb, hml, hown, hts⟩ (c_X2_takesSign l dC dI cI cZ (s.heap).size h0 pN pN_i pN_h v_x_awaited v_x_awaited_i v_x_awaited_h (by omega) v_x_askedNow v_x_askedNow_i v_x_askedNow_h (by omega) v_x_signNow v_x_signNow_i v_x_signNow_h v_x_numberNow v_x_numberNow_i v_x_numberNow_h v_x_digitsNow v_x_digitsNow_i v_x_digitsNow_h (by omega)) ⟨callB_of 1 hts (zz_good zw_468) rfl rfl rfl hw1 hw8 (by decide +kernel) ⟨Nat.le_of_ble_eq_true rfl, Nat.le_of_ble_eq_true rfl⟩, hw9, hw10⟩ ⟨fun a U g mk q => by obtain ⟨q0, q1, qP, qK, qD⟩ := q; exact ⟨q0, q1, qP, va_K.moved (u := U) (U := U.calling g mk a) (Vm.Alike.refl U.vm) qK, qD⟩, va_recv hK hPc (ci := 2) (q0 := 0) rfl rfl, fun U hU hW => ⟨rfl, by rw [hU], by rw [hU]; exact hPc, va_K.moved hW.alike hK, hDc.weaken (fun _ _ _ _ => trivial)⟩⟩ rfl rfl hl.1 rfl (lv_room (Nat.le_of_ble_eq_true rfl)) dX2_goesOn_76 ⟨Nat.le_of_ble_eq_true rfl, Nat.le_of_ble_eq_true rfl⟩) hS (fun q _ h => hFc q h) hFc (fun r_28 u t H1 locs ht hvm hpost hB hz1 hk1 hS => ?_)
      subst hpost
      obtain ⟨w_h0_awaited_29, w_h0_signNow_30, hf_31, hf_32, hf_33, hP1, hK1, hD1⟩ := hB
      rw [ht] at hP1
      obtain ⟨hP, hD⟩ := va_join (wr := [(pBk, .inr (1, [.ref y_clauses, .ref y_asked, .ref y_signs, .ref y_numbers, .ref y_paces])), (y_clauses, .inl (cI, 10, .inl f_y_clauses)), (y_asked, .inl (cI, 160, .inl f_y_asked)), (y_signs, .inl (cI, 160, .inl f_y_signs)), (y_numbers, .inl (cI, 160, .inl f_y_numbers)), (y_paces, .inl (cI, 160, .inl f_y_paces))]) (w1 := [(h0, .inr (2, [.int w_h0_awaited_29, .int v_x_askedNow, .int w_h0_signNow_30, .int v_x_numberNow, .int v_x_digitsNow]))]) hP hD [0] [1, 2, 3, 4, 5, 6] rfl rfl (by decide) (by decide) hk1 hFc hP1 hD1
      generalize H1 = H at hP hS ⊢
      have hP : va_P (dC, dI) vwCl [(pBk, .inr (1, [.ref y_clauses, .ref y_asked, .ref y_signs, .ref y_numbers, .ref y_paces])), (y_clauses, .inl (cI, 10, .inl f_y_clauses)), (y_asked, .inl (cI, 160, .inl f_y_asked)), (y_signs, .inl (cI, 160, .inl f_y_signs)), (y_numbers, .inl (cI, 160, .inl f_y_numbers)), (y_paces, .inl (cI, 160, .inl f_y_paces)), (h0, .inr (2, [.int w_h0_awaited_29, .int v_x_askedNow, .int w_h0_signNow_30, .int v_x_numberNow, .int v_x_digitsNow]))] H := hP
      have hD : va_D A [(pBk, .inr (1, [.ref y_clauses, .ref y_asked, .ref y_signs, .ref y_numbers, .ref y_paces])), (y_clauses, .inl (cI, 10, .inl f_y_clauses)), (y_asked, .inl (cI, 160, .inl f_y_asked)), (y_signs, .inl (cI, 160, .inl f_y_signs)), (y_numbers, .inl (cI, 160, .inl f_y_numbers)), (y_paces, .inl (cI, 160, .inl f_y_paces)), (h0, .inr (2, [.int w_h0_awaited_29, .int v_x_askedNow, .int w_h0_signNow_30, .int v_x_numberNow, .int v_x_digitsNow]))] := hD
      have hf_31 : (r_28 = 1 ∧ ((pN_i = 61 ∨ pN_i = 60 ∨ pN_i = 62))) ∨ (r_28 = 0 ∧ ¬ ((pN_i = 61 ∨ pN_i = 60 ∨ pN_i = 62))) := hf_31
      have hf_32 : ¬ (pN_i = 61 ∨ pN_i = 60 ∨ pN_i = 62) ∨ w_h0_awaited_29.toInt = 3 := hf_32
      have hf_33 : 0 ≤ w_h0_awaited_29.toInt ∧ w_h0_awaited_29.toInt ≤ 7 := hf_33
      rcases hf_31 with ⟨rfl, hf_31⟩ | ⟨rfl, hf_31⟩
      ·
        have hu9 : (1 : Int32).toInt = (1:Int) := (by decide)
        have hx9_w_h0_awaited : (w_h0_awaited_29 : Int32).toInt = (w_h0_awaited_29).toInt := rfl
        have hx9_w_h0_askedNow : (v_x_askedNow : Int32).toInt = v_x_askedNow_i := v_x_askedNow_h
        have hx9_w_h0_signNow : (w_h0_signNow_30 : Int32).toInt = (w_h0_signNow_30).toInt := rfl
        have hx9_w_h0_numberNow : (v_x_numberNow : Int32).toInt = v_x_numberNow_i := v_x_numberNow_h
        have hx9_w_h0_digitsNow : (v_x_digitsNow : Int32).toInt = v_x_digitsNow_i := v_x_digitsNow_h
        have hP9 := hP.sub (ws' := [(h0, .inr (2, [.int w_h0_awaited_29, .int v_x_askedNow, .int w_h0_signNow_30, .int v_x_numberNow, .int v_x_digitsNow])), (pBk, .inr (1, [.ref y_clauses, .ref y_asked, .ref y_signs, .ref y_numbers, .ref y_paces])), (y_clauses, .inl (cI, 10, .inl f_y_clauses)), (y_asked, .inl (cI, 160, .inl f_y_asked)), (y_signs, .inl (cI, 160, .inl f_y_signs)), (y_numbers, .inl (cI, 160, .inl f_y_numbers)), (y_paces, .inl (cI, 160, .inl f_y_paces))]) [6, 0, 1, 2, 3, 4, 5] rfl
        have hD9 := hD.sub (ws' := [(h0, .inr (2, [.int w_h0_awaited_29, .int v_x_askedNow, .int w_h0_signNow_30, .int v_x_numberNow, .int v_x_digitsNow])), (pBk, .inr (1, [.ref y_clauses, .ref y_asked, .ref y_signs, .ref y_numbers, .ref y_paces])), (y_clauses, .inl (cI, 10, .inl f_y_clauses)), (y_asked, .inl (cI, 160, .inl f_y_asked)), (y_signs, .inl (cI, 160, .inl f_y_signs)), (y_numbers, .inl (cI, 160, .inl f_y_numbers)), (y_paces, .inl (cI, 160, .inl f_y_paces))]) [6, 0, 1, 2, 3, 4, 5] (by decide) rfl
        have hf9_0 : zGO v_x_awaited_i v_x_digitsNow_i pN_i (1 : Int32).toInt w_h0_awaited_29.toInt v_x_digitsNow.toInt := by first | exact zGO_bl4 (by omega) | exact zGO_bl (by omega) | exact zGO_let (by omega) | exact zGO_letn (by omega) | exact zGO_sig (by omega) | exact zGO_sign (by omega) | exact zGO_num (by omega) | exact zGO_numn (by omega) | exact zGO_mor (by omega) | exact zGO_mor58 (by omega) | exact zGO_morn (by omega) | exact zGO_col (by omega) | exact zGO_coln (by omega) | exact zGO_pac (by omega) | exact zGO_pacn (by omega) | exact zGO_nxt (by omega) | exact zGO_nxtn (by omega)
        have hf9_1 : 0 ≤ (1 : Int32).toInt ∧ (1 : Int32).toInt ≤ 1 := by omega
        have hf9_2 : 0 ≤ w_h0_awaited_29.toInt ∧ w_h0_awaited_29.toInt ≤ 7 := by omega
        have hf9_3 : 0 ≤ v_x_askedNow.toInt ∧ v_x_askedNow.toInt ≤ 4 := by omega
        have hf9_4 : 0 ≤ v_x_digitsNow.toInt ∧ v_x_digitsNow.toInt ≤ 3 := by omega
        have hf9_5 : zr f_y_clauses 10 (0) (16) := R_y_clauses
        have hf9_6 : zr f_y_asked 160 (0) (4) := R_y_asked
        have hf9_7 : zr f_y_paces 160 (0) (9) := R_y_paces
        exact W.zret (v := 1) hx hb hr rfl (fun t ht hW => ⟨⟨1, 1, rfl, rfl, w_h0_awaited_29, v_x_askedNow, w_h0_signNow_30, v_x_numberNow, v_x_digitsNow, f_y_clauses, f_y_asked, f_y_signs, f_y_numbers, f_y_paces, hf9_0, hf9_1, hf9_2, hf9_3, hf9_4, hf9_5, hf9_6, hf9_7, by rw [ht]; exact hP9, va_K.moved hW.alike hK, hD9⟩, hS.F ht⟩) hS.2.2 dX2_goesOn_79
      ·
        have hu9 : (0 : Int32).toInt = (0:Int) := (by decide)
        have hx9_w_h0_awaited : (w_h0_awaited_29 : Int32).toInt = (w_h0_awaited_29).toInt := rfl
        have hx9_w_h0_askedNow : (v_x_askedNow : Int32).toInt = v_x_askedNow_i := v_x_askedNow_h
        have hx9_w_h0_signNow : (w_h0_signNow_30 : Int32).toInt = (w_h0_signNow_30).toInt := rfl
        have hx9_w_h0_numberNow : (v_x_numberNow : Int32).toInt = v_x_numberNow_i := v_x_numberNow_h
        have hx9_w_h0_digitsNow : (v_x_digitsNow : Int32).toInt = v_x_digitsNow_i := v_x_digitsNow_h
        have hP9 := hP.sub (ws' := [(h0, .inr (2, [.int w_h0_awaited_29, .int v_x_askedNow, .int w_h0_signNow_30, .int v_x_numberNow, .int v_x_digitsNow])), (pBk, .inr (1, [.ref y_clauses, .ref y_asked, .ref y_signs, .ref y_numbers, .ref y_paces])), (y_clauses, .inl (cI, 10, .inl f_y_clauses)), (y_asked, .inl (cI, 160, .inl f_y_asked)), (y_signs, .inl (cI, 160, .inl f_y_signs)), (y_numbers, .inl (cI, 160, .inl f_y_numbers)), (y_paces, .inl (cI, 160, .inl f_y_paces))]) [6, 0, 1, 2, 3, 4, 5] rfl
        have hD9 := hD.sub (ws' := [(h0, .inr (2, [.int w_h0_awaited_29, .int v_x_askedNow, .int w_h0_signNow_30, .int v_x_numberNow, .int v_x_digitsNow])), (pBk, .inr (1, [.ref y_clauses, .ref y_asked, .ref y_signs, .ref y_numbers, .ref y_paces])), (y_clauses, .inl (cI, 10, .inl f_y_clauses)), (y_asked, .inl (cI, 160, .inl f_y_asked)), (y_signs, .inl (cI, 160, .inl f_y_signs)), (y_numbers, .inl (cI, 160, .inl f_y_numbers)), (y_paces, .inl (cI, 160, .inl f_y_paces))]) [6, 0, 1, 2, 3, 4, 5] (by decide) rfl
        have hf9_0 : zGO v_x_awaited_i v_x_digitsNow_i pN_i (0 : Int32).toInt w_h0_awaited_29.toInt v_x_digitsNow.toInt := by first | exact zGO_bl4 (by omega) | exact zGO_bl (by omega) | exact zGO_let (by omega) | exact zGO_letn (by omega) | exact zGO_sig (by omega) | exact zGO_sign (by omega) | exact zGO_num (by omega) | exact zGO_numn (by omega) | exact zGO_mor (by omega) | exact zGO_mor58 (by omega) | exact zGO_morn (by omega) | exact zGO_col (by omega) | exact zGO_coln (by omega) | exact zGO_pac (by omega) | exact zGO_pacn (by omega) | exact zGO_nxt (by omega) | exact zGO_nxtn (by omega)
        have hf9_1 : 0 ≤ (0 : Int32).toInt ∧ (0 : Int32).toInt ≤ 1 := by omega
        have hf9_2 : 0 ≤ w_h0_awaited_29.toInt ∧ w_h0_awaited_29.toInt ≤ 7 := by omega
        have hf9_3 : 0 ≤ v_x_askedNow.toInt ∧ v_x_askedNow.toInt ≤ 4 := by omega
        have hf9_4 : 0 ≤ v_x_digitsNow.toInt ∧ v_x_digitsNow.toInt ≤ 3 := by omega
        have hf9_5 : zr f_y_clauses 10 (0) (16) := R_y_clauses
        have hf9_6 : zr f_y_asked 160 (0) (4) := R_y_asked
        have hf9_7 : zr f_y_paces 160 (0) (9) := R_y_paces
        exact W.zret (v := 0) hx hb hr rfl (fun t ht hW => ⟨⟨0, 0, rfl, rfl, w_h0_awaited_29, v_x_askedNow, w_h0_signNow_30, v_x_numberNow, v_x_digitsNow, f_y_clauses, f_y_asked, f_y_signs, f_y_numbers, f_y_paces, hf9_0, hf9_1, hf9_2, hf9_3, hf9_4, hf9_5, hf9_6, hf9_7, by rw [ht]; exact hP9, va_K.moved hW.alike hK, hD9⟩, hS.F ht⟩) hS.2.2 dX2_goesOn_79
    ·
      refine lv_tableIn (tgt := 80) (off := 55) hx hb dX2_goesOn_25 (by rw [hs_2]; omega) (by rw [hs_2]; omega) (by rw [hs_2, q_3]; rfl) (by decide) ?_
      refine lv_aload_n hx hb dX2_goesOn_80 rfl (lv_at hl 0 rfl) ?_
      refine lv_iload_n hx hb dX2_goesOn_81 rfl (lv_at hl 1 rfl) ?_
      have hPc := hP.sub (ws' := [(h0, .inr (2, [.int v_x_awaited, .int v_x_askedNow, .int v_x_signNow, .int v_x_numberNow, .int v_x_digitsNow]))]) [0] rfl
      have hDc := hD.sub (ws' := [(h0, .inr (2, [.int v_x_awaited, .int v_x_askedNow, .int v_x_signNow, .int v_x_numberNow, .int v_x_digitsNow]))]) [0] (by decide) rfl
      have hFc := va_free (wc := [(h0, .inr (2, [.int v_x_awaited, .int v_x_askedNow, .int v_x_signNow, .int v_x_numberNow, .int v_x_digitsNow]))]) hD hS hA [0] rfl
      refine va_calli (va_runV (As := [.int pN]) (rest := []) ⟨hx, hb, hml, hown, hts⟩ (c_X2_takesFirstDigit l dC dI cI cZ (s.heap).size h0 pN pN_i pN_h v_x_awaited v_x_awaited_i v_x_awaited_h (by omega) v_x_askedNow v_x_askedNow_i v_x_askedNow_h (by omega) v_x_signNow v_x_signNow_i v_x_signNow_h v_x_numberNow v_x_numberNow_i v_x_numberNow_h v_x_digitsNow v_x_digitsNow_i v_x_digitsNow_h (by omega)) ⟨callB_of 1 hts (zz_good zw_472) rfl rfl rfl hw1 hw11 (by decide +kernel) ⟨Nat.le_of_ble_eq_true rfl, Nat.le_of_ble_eq_true rfl⟩, hw12, hw13⟩ ⟨fun a U g mk q => by obtain ⟨q0, q1, qP, qK, qD⟩ := q; exact ⟨q0, q1, qP, va_K.moved (u := U) (U := U.calling g mk a) (Vm.Alike.refl U.vm) qK, qD⟩, va_recv hK hPc (ci := 2) (q0 := 0) rfl rfl, fun U hU hW => ⟨rfl, by rw [hU], by rw [hU]; exact hPc, va_K.moved hW.alike hK, hDc.weaken (fun _ _ _ _ => trivial)⟩⟩ rfl rfl hl.1 rfl (lv_room (Nat.le_of_ble_eq_true rfl)) dX2_goesOn_82 ⟨Nat.le_of_ble_eq_true rfl, Nat.le_of_ble_eq_true rfl⟩) hS (fun q _ h => hFc q h) hFc (fun r_34 u t H1 locs ht hvm hpost hB hz1 hk1 hS => ?_)
      subst hpost
      obtain ⟨w_h0_awaited_35, w_h0_numberNow_36, w_h0_digitsNow_37, hf_38, hf_39, hf_40, hf_41, hP1, hK1, hD1⟩ := hB
      rw [ht] at hP1
      obtain ⟨hP, hD⟩ := va_join (wr := [(pBk, .inr (1, [.ref y_clauses, .ref y_asked, .ref y_signs, .ref y_numbers, .ref y_paces])), (y_clauses, .inl (cI, 10, .inl f_y_clauses)), (y_asked, .inl (cI, 160, .inl f_y_asked)), (y_signs, .inl (cI, 160, .inl f_y_signs)), (y_numbers, .inl (cI, 160, .inl f_y_numbers)), (y_paces, .inl (cI, 160, .inl f_y_paces))]) (w1 := [(h0, .inr (2, [.int w_h0_awaited_35, .int v_x_askedNow, .int v_x_signNow, .int w_h0_numberNow_36, .int w_h0_digitsNow_37]))]) hP hD [0] [1, 2, 3, 4, 5, 6] rfl rfl (by decide) (by decide) hk1 hFc hP1 hD1
      generalize H1 = H at hP hS ⊢
      have hP : va_P (dC, dI) vwCl [(pBk, .inr (1, [.ref y_clauses, .ref y_asked, .ref y_signs, .ref y_numbers, .ref y_paces])), (y_clauses, .inl (cI, 10, .inl f_y_clauses)), (y_asked, .inl (cI, 160, .inl f_y_asked)), (y_signs, .inl (cI, 160, .inl f_y_signs)), (y_numbers, .inl (cI, 160, .inl f_y_numbers)), (y_paces, .inl (cI, 160, .inl f_y_paces)), (h0, .inr (2, [.int w_h0_awaited_35, .int v_x_askedNow, .int v_x_signNow, .int w_h0_numberNow_36, .int w_h0_digitsNow_37]))] H := hP
      have hD : va_D A [(pBk, .inr (1, [.ref y_clauses, .ref y_asked, .ref y_signs, .ref y_numbers, .ref y_paces])), (y_clauses, .inl (cI, 10, .inl f_y_clauses)), (y_asked, .inl (cI, 160, .inl f_y_asked)), (y_signs, .inl (cI, 160, .inl f_y_signs)), (y_numbers, .inl (cI, 160, .inl f_y_numbers)), (y_paces, .inl (cI, 160, .inl f_y_paces)), (h0, .inr (2, [.int w_h0_awaited_35, .int v_x_askedNow, .int v_x_signNow, .int w_h0_numberNow_36, .int w_h0_digitsNow_37]))] := hD
      have hf_38 : (r_34 = 1 ∧ ((48 ≤ pN_i ∧ pN_i ≤ 57))) ∨ (r_34 = 0 ∧ ¬ ((48 ≤ pN_i ∧ pN_i ≤ 57))) := hf_38
      have hf_39 : ¬ (48 ≤ pN_i ∧ pN_i ≤ 57) ∨ (w_h0_awaited_35.toInt = 4 ∧ w_h0_digitsNow_37.toInt = 1) := hf_39
      have hf_40 : 0 ≤ w_h0_awaited_35.toInt ∧ w_h0_awaited_35.toInt ≤ 7 := hf_40
      have hf_41 : 0 ≤ w_h0_digitsNow_37.toInt ∧ w_h0_digitsNow_37.toInt ≤ 3 := hf_41
      rcases hf_38 with ⟨rfl, hf_38⟩ | ⟨rfl, hf_38⟩
      ·
        have hu9 : (1 : Int32).toInt = (1:Int) := (by decide)
        have hx9_w_h0_awaited : (w_h0_awaited_35 : Int32).toInt = (w_h0_awaited_35).toInt := rfl
        have hx9_w_h0_askedNow : (v_x_askedNow : Int32).toInt = v_x_askedNow_i := v_x_askedNow_h
        have hx9_w_h0_signNow : (v_x_signNow : Int32).toInt = v_x_signNow_i := v_x_signNow_h
        have hx9_w_h0_numberNow : (w_h0_numberNow_36 : Int32).toInt = (w_h0_numberNow_36).toInt := rfl
        have hx9_w_h0_digitsNow : (w_h0_digitsNow_37 : Int32).toInt = (w_h0_digitsNow_37).toInt := rfl
        have hP9 := hP.sub (ws' := [(h0, .inr (2, [.int w_h0_awaited_35, .int v_x_askedNow, .int v_x_signNow, .int w_h0_numberNow_36, .int w_h0_digitsNow_37])), (pBk, .inr (1, [.ref y_clauses, .ref y_asked, .ref y_signs, .ref y_numbers, .ref y_paces])), (y_clauses, .inl (cI, 10, .inl f_y_clauses)), (y_asked, .inl (cI, 160, .inl f_y_asked)), (y_signs, .inl (cI, 160, .inl f_y_signs)), (y_numbers, .inl (cI, 160, .inl f_y_numbers)), (y_paces, .inl (cI, 160, .inl f_y_paces))]) [6, 0, 1, 2, 3, 4, 5] rfl
        have hD9 := hD.sub (ws' := [(h0, .inr (2, [.int w_h0_awaited_35, .int v_x_askedNow, .int v_x_signNow, .int w_h0_numberNow_36, .int w_h0_digitsNow_37])), (pBk, .inr (1, [.ref y_clauses, .ref y_asked, .ref y_signs, .ref y_numbers, .ref y_paces])), (y_clauses, .inl (cI, 10, .inl f_y_clauses)), (y_asked, .inl (cI, 160, .inl f_y_asked)), (y_signs, .inl (cI, 160, .inl f_y_signs)), (y_numbers, .inl (cI, 160, .inl f_y_numbers)), (y_paces, .inl (cI, 160, .inl f_y_paces))]) [6, 0, 1, 2, 3, 4, 5] (by decide) rfl
        have hf9_0 : zGO v_x_awaited_i v_x_digitsNow_i pN_i (1 : Int32).toInt w_h0_awaited_35.toInt w_h0_digitsNow_37.toInt := by first | exact zGO_bl4 (by omega) | exact zGO_bl (by omega) | exact zGO_let (by omega) | exact zGO_letn (by omega) | exact zGO_sig (by omega) | exact zGO_sign (by omega) | exact zGO_num (by omega) | exact zGO_numn (by omega) | exact zGO_mor (by omega) | exact zGO_mor58 (by omega) | exact zGO_morn (by omega) | exact zGO_col (by omega) | exact zGO_coln (by omega) | exact zGO_pac (by omega) | exact zGO_pacn (by omega) | exact zGO_nxt (by omega) | exact zGO_nxtn (by omega)
        have hf9_1 : 0 ≤ (1 : Int32).toInt ∧ (1 : Int32).toInt ≤ 1 := by omega
        have hf9_2 : 0 ≤ w_h0_awaited_35.toInt ∧ w_h0_awaited_35.toInt ≤ 7 := by omega
        have hf9_3 : 0 ≤ v_x_askedNow.toInt ∧ v_x_askedNow.toInt ≤ 4 := by omega
        have hf9_4 : 0 ≤ w_h0_digitsNow_37.toInt ∧ w_h0_digitsNow_37.toInt ≤ 3 := by omega
        have hf9_5 : zr f_y_clauses 10 (0) (16) := R_y_clauses
        have hf9_6 : zr f_y_asked 160 (0) (4) := R_y_asked
        have hf9_7 : zr f_y_paces 160 (0) (9) := R_y_paces
        exact W.zret (v := 1) hx hb hr rfl (fun t ht hW => ⟨⟨1, 1, rfl, rfl, w_h0_awaited_35, v_x_askedNow, v_x_signNow, w_h0_numberNow_36, w_h0_digitsNow_37, f_y_clauses, f_y_asked, f_y_signs, f_y_numbers, f_y_paces, hf9_0, hf9_1, hf9_2, hf9_3, hf9_4, hf9_5, hf9_6, hf9_7, by rw [ht]; exact hP9, va_K.moved hW.alike hK, hD9⟩, hS.F ht⟩) hS.2.2 dX2_goesOn_85
      ·
        have hu9 : (0 : Int32).toInt = (0:Int) := (by decide)
        have hx9_w_h0_awaited : (w_h0_awaited_35 : Int32).toInt = (w_h0_awaited_35).toInt := rfl
        have hx9_w_h0_askedNow : (v_x_askedNow : Int32).toInt = v_x_askedNow_i := v_x_askedNow_h
        have hx9_w_h0_signNow : (v_x_signNow : Int32).toInt = v_x_signNow_i := v_x_signNow_h
        have hx9_w_h0_numberNow : (w_h0_numberNow_36 : Int32).toInt = (w_h0_numberNow_36).toInt := rfl
        have hx9_w_h0_digitsNow : (w_h0_digitsNow_37 : Int32).toInt = (w_h0_digitsNow_37).toInt := rfl
        have hP9 := hP.sub (ws' := [(h0, .inr (2, [.int w_h0_awaited_35, .int v_x_askedNow, .int v_x_signNow, .int w_h0_numberNow_36, .int w_h0_digitsNow_37])), (pBk, .inr (1, [.ref y_clauses, .ref y_asked, .ref y_signs, .ref y_numbers, .ref y_paces])), (y_clauses, .inl (cI, 10, .inl f_y_clauses)), (y_asked, .inl (cI, 160, .inl f_y_asked)), (y_signs, .inl (cI, 160, .inl f_y_signs)), (y_numbers, .inl (cI, 160, .inl f_y_numbers)), (y_paces, .inl (cI, 160, .inl f_y_paces))]) [6, 0, 1, 2, 3, 4, 5] rfl
        have hD9 := hD.sub (ws' := [(h0, .inr (2, [.int w_h0_awaited_35, .int v_x_askedNow, .int v_x_signNow, .int w_h0_numberNow_36, .int w_h0_digitsNow_37])), (pBk, .inr (1, [.ref y_clauses, .ref y_asked, .ref y_signs, .ref y_numbers, .ref y_paces])), (y_clauses, .inl (cI, 10, .inl f_y_clauses)), (y_asked, .inl (cI, 160, .inl f_y_asked)), (y_signs, .inl (cI, 160, .inl f_y_signs)), (y_numbers, .inl (cI, 160, .inl f_y_numbers)), (y_paces, .inl (cI, 160, .inl f_y_paces))]) [6, 0, 1, 2, 3, 4, 5] (by decide) rfl
        have hf9_0 : zGO v_x_awaited_i v_x_digitsNow_i pN_i (0 : Int32).toInt w_h0_awaited_35.toInt w_h0_digitsNow_37.toInt := by first | exact zGO_bl4 (by omega) | exact zGO_bl (by omega) | exact zGO_let (by omega) | exact zGO_letn (by omega) | exact zGO_sig (by omega) | exact zGO_sign (by omega) | exact zGO_num (by omega) | exact zGO_numn (by omega) | exact zGO_mor (by omega) | exact zGO_mor58 (by omega) | exact zGO_morn (by omega) | exact zGO_col (by omega) | exact zGO_coln (by omega) | exact zGO_pac (by omega) | exact zGO_pacn (by omega) | exact zGO_nxt (by omega) | exact zGO_nxtn (by omega)
        have hf9_1 : 0 ≤ (0 : Int32).toInt ∧ (0 : Int32).toInt ≤ 1 := by omega
        have hf9_2 : 0 ≤ w_h0_awaited_35.toInt ∧ w_h0_awaited_35.toInt ≤ 7 := by omega
        have hf9_3 : 0 ≤ v_x_askedNow.toInt ∧ v_x_askedNow.toInt ≤ 4 := by omega
        have hf9_4 : 0 ≤ w_h0_digitsNow_37.toInt ∧ w_h0_digitsNow_37.toInt ≤ 3 := by omega
        have hf9_5 : zr f_y_clauses 10 (0) (16) := R_y_clauses
        have hf9_6 : zr f_y_asked 160 (0) (4) := R_y_asked
        have hf9_7 : zr f_y_paces 160 (0) (9) := R_y_paces
        exact W.zret (v := 0) hx hb hr rfl (fun t ht hW => ⟨⟨0, 0, rfl, rfl, w_h0_awaited_35, v_x_askedNow, v_x_signNow, w_h0_numberNow_36, w_h0_digitsNow_37, f_y_clauses, f_y_asked, f_y_signs, f_y_numbers, f_y_paces, hf9_0, hf9_1, hf9_2, hf9_3, hf9_4, hf9_5, hf9_6, hf9_7, by rw [ht]; exact hP9, va_K.moved hW.alike hK, hD9⟩, hS.F ht⟩) hS.2.2 dX2_goesOn_85
    ·
      refine lv_tableIn (tgt := 86) (off := 61) hx hb dX2_goesOn_25 (by rw [hs_2]; omega) (by rw [hs_2]; omega) (by rw [hs_2, q_3]; rfl) (by decide) ?_
      refine lv_aload_n hx hb dX2_goesOn_86 rfl (lv_at hl 0 rfl) ?_
      refine lv_iload_n hx hb dX2_goesOn_87 rfl (lv_at hl 1 rfl) ?_
      have hPc := hP.sub (ws' := [(h0, .inr (2, [.int v_x_awaited, .int v_x_askedNow, .int v_x_signNow, .int v_x_numberNow, .int v_x_digitsNow]))]) [0] rfl
      have hDc := hD.sub (ws' := [(h0, .inr (2, [.int v_x_awaited, .int v_x_askedNow, .int v_x_signNow, .int v_x_numberNow, .int v_x_digitsNow]))]) [0] (by decide) rfl
      have hFc := va_free (wc := [(h0, .inr (2, [.int v_x_awaited, .int v_x_askedNow, .int v_x_signNow, .int v_x_numberNow, .int v_x_digitsNow]))]) hD hS hA [0] rfl
      refine va_calli (va_runV (As := [.int pN]) (rest := []) ⟨hx, hb, hml, hown, hts⟩ (c_X2_takesDigit l dC dI cI cZ (s.heap).size h0 pN pN_i pN_h v_x_awaited v_x_awaited_i v_x_awaited_h (by omega) v_x_askedNow v_x_askedNow_i v_x_askedNow_h (by omega) v_x_signNow v_x_signNow_i v_x_signNow_h v_x_numberNow v_x_numberNow_i v_x_numberNow_h v_x_digitsNow v_x_digitsNow_i v_x_digitsNow_h (by omega)) ⟨callB_of 1 hts (zz_good zw_476) rfl rfl rfl hw1 hw14 (by decide +kernel) ⟨Nat.le_of_ble_eq_true rfl, Nat.le_of_ble_eq_true rfl⟩, hw15, hw16⟩ ⟨fun a U g mk q => by obtain ⟨q0, q1, qP, qK, qD⟩ := q; exact ⟨q0, q1, qP, va_K.moved (u := U) (U := U.calling g mk a) (Vm.Alike.refl U.vm) qK, qD⟩, va_recv hK hPc (ci := 2) (q0 := 0) rfl rfl, fun U hU hW => ⟨rfl, by rw [hU], by rw [hU]; exact hPc, va_K.moved hW.alike hK, hDc.weaken (fun _ _ _ _ => trivial)⟩⟩ rfl rfl hl.1 rfl (lv_room (Nat.le_of_ble_eq_true rfl)) dX2_goesOn_88 ⟨Nat.le_of_ble_eq_true rfl, Nat.le_of_ble_eq_true rfl⟩) hS (fun q _ h => hFc q h) hFc (fun r_42 u t H1 locs ht hvm hpost hB hz1 hk1 hS => ?_)
      subst hpost
      obtain ⟨w_h0_awaited_43, w_h0_numberNow_44, w_h0_digitsNow_45, hf_46, hf_47, hf_48, hf_49, hP1, hK1, hD1⟩ := hB
      rw [ht] at hP1
      obtain ⟨hP, hD⟩ := va_join (wr := [(pBk, .inr (1, [.ref y_clauses, .ref y_asked, .ref y_signs, .ref y_numbers, .ref y_paces])), (y_clauses, .inl (cI, 10, .inl f_y_clauses)), (y_asked, .inl (cI, 160, .inl f_y_asked)), (y_signs, .inl (cI, 160, .inl f_y_signs)), (y_numbers, .inl (cI, 160, .inl f_y_numbers)), (y_paces, .inl (cI, 160, .inl f_y_paces))]) (w1 := [(h0, .inr (2, [.int w_h0_awaited_43, .int v_x_askedNow, .int v_x_signNow, .int w_h0_numberNow_44, .int w_h0_digitsNow_45]))]) hP hD [0] [1, 2, 3, 4, 5, 6] rfl rfl (by decide) (by decide) hk1 hFc hP1 hD1
      generalize H1 = H at hP hS ⊢
      have hP : va_P (dC, dI) vwCl [(pBk, .inr (1, [.ref y_clauses, .ref y_asked, .ref y_signs, .ref y_numbers, .ref y_paces])), (y_clauses, .inl (cI, 10, .inl f_y_clauses)), (y_asked, .inl (cI, 160, .inl f_y_asked)), (y_signs, .inl (cI, 160, .inl f_y_signs)), (y_numbers, .inl (cI, 160, .inl f_y_numbers)), (y_paces, .inl (cI, 160, .inl f_y_paces)), (h0, .inr (2, [.int w_h0_awaited_43, .int v_x_askedNow, .int v_x_signNow, .int w_h0_numberNow_44, .int w_h0_digitsNow_45]))] H := hP
      have hD : va_D A [(pBk, .inr (1, [.ref y_clauses, .ref y_asked, .ref y_signs, .ref y_numbers, .ref y_paces])), (y_clauses, .inl (cI, 10, .inl f_y_clauses)), (y_asked, .inl (cI, 160, .inl f_y_asked)), (y_signs, .inl (cI, 160, .inl f_y_signs)), (y_numbers, .inl (cI, 160, .inl f_y_numbers)), (y_paces, .inl (cI, 160, .inl f_y_paces)), (h0, .inr (2, [.int w_h0_awaited_43, .int v_x_askedNow, .int v_x_signNow, .int w_h0_numberNow_44, .int w_h0_digitsNow_45]))] := hD
      have hf_46 : (r_42 = 1 ∧ ((48 ≤ pN_i ∧ pN_i ≤ 57 ∧ v_x_digitsNow_i < 3))) ∨ (r_42 = 0 ∧ ¬ ((48 ≤ pN_i ∧ pN_i ≤ 57 ∧ v_x_digitsNow_i < 3))) := hf_46
      have hf_47 : ¬ (48 ≤ pN_i ∧ pN_i ≤ 57 ∧ v_x_digitsNow_i < 3) ∨ (w_h0_awaited_43.toInt = 4 ∧ w_h0_digitsNow_45.toInt = v_x_digitsNow_i + 1) := hf_47
      have hf_48 : 0 ≤ w_h0_awaited_43.toInt ∧ w_h0_awaited_43.toInt ≤ 7 := hf_48
      have hf_49 : 0 ≤ w_h0_digitsNow_45.toInt ∧ w_h0_digitsNow_45.toInt ≤ 3 := hf_49
      rcases hf_46 with ⟨rfl, hf_46⟩ | ⟨rfl, hf_46⟩
      ·
        refine lv_if_ne (tgt := 106) hx hb dX2_goesOn_91 (by decide) (fun c_50 => ?_) (fun c_50 => ?_)
        ·
          refine lv_iconst (v := 1) hx hb dX2_goesOn_106 (by decide) ?_
          refine lv_goto (tgt := 111) hx hb dX2_goesOn_107 (by decide) ?_
          have hu9 : (1 : Int32).toInt = (1:Int) := (by decide)
          have hx9_w_h0_awaited : (w_h0_awaited_43 : Int32).toInt = (w_h0_awaited_43).toInt := rfl
          have hx9_w_h0_askedNow : (v_x_askedNow : Int32).toInt = v_x_askedNow_i := v_x_askedNow_h
          have hx9_w_h0_signNow : (v_x_signNow : Int32).toInt = v_x_signNow_i := v_x_signNow_h
          have hx9_w_h0_numberNow : (w_h0_numberNow_44 : Int32).toInt = (w_h0_numberNow_44).toInt := rfl
          have hx9_w_h0_digitsNow : (w_h0_digitsNow_45 : Int32).toInt = (w_h0_digitsNow_45).toInt := rfl
          have hP9 := hP.sub (ws' := [(h0, .inr (2, [.int w_h0_awaited_43, .int v_x_askedNow, .int v_x_signNow, .int w_h0_numberNow_44, .int w_h0_digitsNow_45])), (pBk, .inr (1, [.ref y_clauses, .ref y_asked, .ref y_signs, .ref y_numbers, .ref y_paces])), (y_clauses, .inl (cI, 10, .inl f_y_clauses)), (y_asked, .inl (cI, 160, .inl f_y_asked)), (y_signs, .inl (cI, 160, .inl f_y_signs)), (y_numbers, .inl (cI, 160, .inl f_y_numbers)), (y_paces, .inl (cI, 160, .inl f_y_paces))]) [6, 0, 1, 2, 3, 4, 5] rfl
          have hD9 := hD.sub (ws' := [(h0, .inr (2, [.int w_h0_awaited_43, .int v_x_askedNow, .int v_x_signNow, .int w_h0_numberNow_44, .int w_h0_digitsNow_45])), (pBk, .inr (1, [.ref y_clauses, .ref y_asked, .ref y_signs, .ref y_numbers, .ref y_paces])), (y_clauses, .inl (cI, 10, .inl f_y_clauses)), (y_asked, .inl (cI, 160, .inl f_y_asked)), (y_signs, .inl (cI, 160, .inl f_y_signs)), (y_numbers, .inl (cI, 160, .inl f_y_numbers)), (y_paces, .inl (cI, 160, .inl f_y_paces))]) [6, 0, 1, 2, 3, 4, 5] (by decide) rfl
          have hf9_0 : zGO v_x_awaited_i v_x_digitsNow_i pN_i (1 : Int32).toInt w_h0_awaited_43.toInt w_h0_digitsNow_45.toInt := by first | exact zGO_bl4 (by omega) | exact zGO_bl (by omega) | exact zGO_let (by omega) | exact zGO_letn (by omega) | exact zGO_sig (by omega) | exact zGO_sign (by omega) | exact zGO_num (by omega) | exact zGO_numn (by omega) | exact zGO_mor (by omega) | exact zGO_mor58 (by omega) | exact zGO_morn (by omega) | exact zGO_col (by omega) | exact zGO_coln (by omega) | exact zGO_pac (by omega) | exact zGO_pacn (by omega) | exact zGO_nxt (by omega) | exact zGO_nxtn (by omega)
          have hf9_1 : 0 ≤ (1 : Int32).toInt ∧ (1 : Int32).toInt ≤ 1 := by omega
          have hf9_2 : 0 ≤ w_h0_awaited_43.toInt ∧ w_h0_awaited_43.toInt ≤ 7 := by omega
          have hf9_3 : 0 ≤ v_x_askedNow.toInt ∧ v_x_askedNow.toInt ≤ 4 := by omega
          have hf9_4 : 0 ≤ w_h0_digitsNow_45.toInt ∧ w_h0_digitsNow_45.toInt ≤ 3 := by omega
          have hf9_5 : zr f_y_clauses 10 (0) (16) := R_y_clauses
          have hf9_6 : zr f_y_asked 160 (0) (4) := R_y_asked
          have hf9_7 : zr f_y_paces 160 (0) (9) := R_y_paces
          exact W.zret (v := 1) hx hb hr rfl (fun t ht hW => ⟨⟨1, 1, rfl, rfl, w_h0_awaited_43, v_x_askedNow, v_x_signNow, w_h0_numberNow_44, w_h0_digitsNow_45, f_y_clauses, f_y_asked, f_y_signs, f_y_numbers, f_y_paces, hf9_0, hf9_1, hf9_2, hf9_3, hf9_4, hf9_5, hf9_6, hf9_7, by rw [ht]; exact hP9, va_K.moved hW.alike hK, hD9⟩, hS.F ht⟩) hS.2.2 dX2_goesOn_111
        ·
          exact absurd c_50 (by decide)
      ·
        refine lv_if_ne (tgt := 106) hx hb dX2_goesOn_91 (by decide) (fun c_51 => ?_) (fun c_51 => ?_)
        ·
          exact absurd c_51 (by decide)
        ·
          refine lv_aload_n hx hb dX2_goesOn_94 rfl (lv_at hl 0 rfl) ?_
          refine lv_iload_n hx hb dX2_goesOn_95 rfl (lv_at hl 1 rfl) ?_
          refine lv_bipush (v := 58) hx hb dX2_goesOn_96 (by decide) ?_
          refine lv_bipush (v := 6) hx hb dX2_goesOn_98 (by decide) ?_
          have hPc := hP.sub (ws' := [(h0, .inr (2, [.int w_h0_awaited_43, .int v_x_askedNow, .int v_x_signNow, .int w_h0_numberNow_44, .int w_h0_digitsNow_45]))]) [6] rfl
          have hDc := hD.sub (ws' := [(h0, .inr (2, [.int w_h0_awaited_43, .int v_x_askedNow, .int v_x_signNow, .int w_h0_numberNow_44, .int w_h0_digitsNow_45]))]) [6] (by decide) rfl
          have hFc := va_free (wc := [(h0, .inr (2, [.int w_h0_awaited_43, .int v_x_askedNow, .int v_x_signNow, .int w_h0_numberNow_44, .int w_h0_digitsNow_45]))]) hD hS hA [6] rfl
          refine va_calli (va_runV (As := [.int pN, .int 58, .int 6]) (rest := []) ⟨hx, hb, hml, hown, hts⟩ (c_X2_takesMark l dC dI cI cZ (H).size h0 pN pN_i pN_h 58 (58:Int) (by decide) 6 (6:Int) (by decide) (by omega) w_h0_awaited_43 ((w_h0_awaited_43).toInt) rfl (by omega) v_x_askedNow v_x_askedNow_i v_x_askedNow_h (by omega) v_x_signNow v_x_signNow_i v_x_signNow_h w_h0_numberNow_44 ((w_h0_numberNow_44).toInt) rfl w_h0_digitsNow_45 ((w_h0_digitsNow_45).toInt) rfl (by omega)) ⟨callB_of 3 hts (zz_good zw_483) rfl rfl rfl hw1 hw2 (by decide +kernel) ⟨Nat.le_of_ble_eq_true rfl, Nat.le_of_ble_eq_true rfl⟩, hw3, hw4⟩ ⟨fun a U g mk q => by obtain ⟨q0, q1, qP, qK, qD⟩ := q; exact ⟨q0, q1, qP, va_K.moved (u := U) (U := U.calling g mk a) (Vm.Alike.refl U.vm) qK, qD⟩, va_recv hK hPc (ci := 2) (q0 := 0) rfl rfl, fun U hU hW => ⟨rfl, by rw [hU], by rw [hU]; exact hPc, va_K.moved hW.alike hK, hDc.weaken (fun _ _ _ _ => trivial)⟩⟩ rfl rfl hl.1 rfl (lv_room (Nat.le_of_ble_eq_true rfl)) dX2_goesOn_100 ⟨Nat.le_of_ble_eq_true rfl, Nat.le_of_ble_eq_true rfl⟩) hS (fun q _ h => hFc q h) hFc (fun r_52 u t H1 locs ht hvm hpost hB hz1 hk1 hS => ?_)
          subst hpost
          obtain ⟨w_h0_awaited_53, hf_54, hf_55, hf_56, hP1, hK1, hD1⟩ := hB
          rw [ht] at hP1
          obtain ⟨hP, hD⟩ := va_join (wr := [(pBk, .inr (1, [.ref y_clauses, .ref y_asked, .ref y_signs, .ref y_numbers, .ref y_paces])), (y_clauses, .inl (cI, 10, .inl f_y_clauses)), (y_asked, .inl (cI, 160, .inl f_y_asked)), (y_signs, .inl (cI, 160, .inl f_y_signs)), (y_numbers, .inl (cI, 160, .inl f_y_numbers)), (y_paces, .inl (cI, 160, .inl f_y_paces))]) (w1 := [(h0, .inr (2, [.int w_h0_awaited_53, .int v_x_askedNow, .int v_x_signNow, .int w_h0_numberNow_44, .int w_h0_digitsNow_45]))]) hP hD [6] [0, 1, 2, 3, 4, 5] rfl rfl (by decide) (by decide) hk1 hFc hP1 hD1
          generalize H1 = H at hP hS ⊢
          have hP : va_P (dC, dI) vwCl [(pBk, .inr (1, [.ref y_clauses, .ref y_asked, .ref y_signs, .ref y_numbers, .ref y_paces])), (y_clauses, .inl (cI, 10, .inl f_y_clauses)), (y_asked, .inl (cI, 160, .inl f_y_asked)), (y_signs, .inl (cI, 160, .inl f_y_signs)), (y_numbers, .inl (cI, 160, .inl f_y_numbers)), (y_paces, .inl (cI, 160, .inl f_y_paces)), (h0, .inr (2, [.int w_h0_awaited_53, .int v_x_askedNow, .int v_x_signNow, .int w_h0_numberNow_44, .int w_h0_digitsNow_45]))] H := hP
          have hD : va_D A [(pBk, .inr (1, [.ref y_clauses, .ref y_asked, .ref y_signs, .ref y_numbers, .ref y_paces])), (y_clauses, .inl (cI, 10, .inl f_y_clauses)), (y_asked, .inl (cI, 160, .inl f_y_asked)), (y_signs, .inl (cI, 160, .inl f_y_signs)), (y_numbers, .inl (cI, 160, .inl f_y_numbers)), (y_paces, .inl (cI, 160, .inl f_y_paces)), (h0, .inr (2, [.int w_h0_awaited_53, .int v_x_askedNow, .int v_x_signNow, .int w_h0_numberNow_44, .int w_h0_digitsNow_45]))] := hD
          have hf_54 : (r_52 = 1 ∧ (pN_i = (58:Int))) ∨ (r_52 = 0 ∧ ¬ (pN_i = (58:Int))) := hf_54
          have hf_55 : ¬ pN_i = (58:Int) ∨ w_h0_awaited_53.toInt = (6:Int) := hf_55
          have hf_56 : 0 ≤ w_h0_awaited_53.toInt ∧ w_h0_awaited_53.toInt ≤ 7 := hf_56
          rcases hf_54 with ⟨rfl, hf_54⟩ | ⟨rfl, hf_54⟩
          ·
            refine lv_if_eq (tgt := 110) hx hb dX2_goesOn_103 (by decide) (fun c_57 => ?_) (fun c_57 => ?_)
            ·
              exact absurd c_57 (by decide)
            ·
              refine lv_iconst (v := 1) hx hb dX2_goesOn_106 (by decide) ?_
              refine lv_goto (tgt := 111) hx hb dX2_goesOn_107 (by decide) ?_
              have hu9 : (1 : Int32).toInt = (1:Int) := (by decide)
              have hx9_w_h0_awaited : (w_h0_awaited_53 : Int32).toInt = (w_h0_awaited_53).toInt := rfl
              have hx9_w_h0_askedNow : (v_x_askedNow : Int32).toInt = v_x_askedNow_i := v_x_askedNow_h
              have hx9_w_h0_signNow : (v_x_signNow : Int32).toInt = v_x_signNow_i := v_x_signNow_h
              have hx9_w_h0_numberNow : (w_h0_numberNow_44 : Int32).toInt = (w_h0_numberNow_44).toInt := rfl
              have hx9_w_h0_digitsNow : (w_h0_digitsNow_45 : Int32).toInt = (w_h0_digitsNow_45).toInt := rfl
              have hP9 := hP.sub (ws' := [(h0, .inr (2, [.int w_h0_awaited_53, .int v_x_askedNow, .int v_x_signNow, .int w_h0_numberNow_44, .int w_h0_digitsNow_45])), (pBk, .inr (1, [.ref y_clauses, .ref y_asked, .ref y_signs, .ref y_numbers, .ref y_paces])), (y_clauses, .inl (cI, 10, .inl f_y_clauses)), (y_asked, .inl (cI, 160, .inl f_y_asked)), (y_signs, .inl (cI, 160, .inl f_y_signs)), (y_numbers, .inl (cI, 160, .inl f_y_numbers)), (y_paces, .inl (cI, 160, .inl f_y_paces))]) [6, 0, 1, 2, 3, 4, 5] rfl
              have hD9 := hD.sub (ws' := [(h0, .inr (2, [.int w_h0_awaited_53, .int v_x_askedNow, .int v_x_signNow, .int w_h0_numberNow_44, .int w_h0_digitsNow_45])), (pBk, .inr (1, [.ref y_clauses, .ref y_asked, .ref y_signs, .ref y_numbers, .ref y_paces])), (y_clauses, .inl (cI, 10, .inl f_y_clauses)), (y_asked, .inl (cI, 160, .inl f_y_asked)), (y_signs, .inl (cI, 160, .inl f_y_signs)), (y_numbers, .inl (cI, 160, .inl f_y_numbers)), (y_paces, .inl (cI, 160, .inl f_y_paces))]) [6, 0, 1, 2, 3, 4, 5] (by decide) rfl
              have hf9_0 : zGO v_x_awaited_i v_x_digitsNow_i pN_i (1 : Int32).toInt w_h0_awaited_53.toInt w_h0_digitsNow_45.toInt := by first | exact zGO_bl4 (by omega) | exact zGO_bl (by omega) | exact zGO_let (by omega) | exact zGO_letn (by omega) | exact zGO_sig (by omega) | exact zGO_sign (by omega) | exact zGO_num (by omega) | exact zGO_numn (by omega) | exact zGO_mor (by omega) | exact zGO_mor58 (by omega) | exact zGO_morn (by omega) | exact zGO_col (by omega) | exact zGO_coln (by omega) | exact zGO_pac (by omega) | exact zGO_pacn (by omega) | exact zGO_nxt (by omega) | exact zGO_nxtn (by omega)
              have hf9_1 : 0 ≤ (1 : Int32).toInt ∧ (1 : Int32).toInt ≤ 1 := by omega
              have hf9_2 : 0 ≤ w_h0_awaited_53.toInt ∧ w_h0_awaited_53.toInt ≤ 7 := by omega
              have hf9_3 : 0 ≤ v_x_askedNow.toInt ∧ v_x_askedNow.toInt ≤ 4 := by omega
              have hf9_4 : 0 ≤ w_h0_digitsNow_45.toInt ∧ w_h0_digitsNow_45.toInt ≤ 3 := by omega
              have hf9_5 : zr f_y_clauses 10 (0) (16) := R_y_clauses
              have hf9_6 : zr f_y_asked 160 (0) (4) := R_y_asked
              have hf9_7 : zr f_y_paces 160 (0) (9) := R_y_paces
              exact W.zret (v := 1) hx hb hr rfl (fun t ht hW => ⟨⟨1, 1, rfl, rfl, w_h0_awaited_53, v_x_askedNow, v_x_signNow, w_h0_numberNow_44, w_h0_digitsNow_45, f_y_clauses, f_y_asked, f_y_signs, f_y_numbers, f_y_paces, hf9_0, hf9_1, hf9_2, hf9_3, hf9_4, hf9_5, hf9_6, hf9_7, by rw [ht]; exact hP9, va_K.moved hW.alike hK, hD9⟩, hS.F ht⟩) hS.2.2 dX2_goesOn_111
          ·
            refine lv_if_eq (tgt := 110) hx hb dX2_goesOn_103 (by decide) (fun c_58 => ?_) (fun c_58 => ?_)
            ·
              refine lv_iconst (v := 0) hx hb dX2_goesOn_110 (by decide) ?_
              have hu9 : (0 : Int32).toInt = (0:Int) := (by decide)
              have hx9_w_h0_awaited : (w_h0_awaited_53 : Int32).toInt = (w_h0_awaited_53).toInt := rfl
              have hx9_w_h0_askedNow : (v_x_askedNow : Int32).toInt = v_x_askedNow_i := v_x_askedNow_h
              have hx9_w_h0_signNow : (v_x_signNow : Int32).toInt = v_x_signNow_i := v_x_signNow_h
              have hx9_w_h0_numberNow : (w_h0_numberNow_44 : Int32).toInt = (w_h0_numberNow_44).toInt := rfl
              have hx9_w_h0_digitsNow : (w_h0_digitsNow_45 : Int32).toInt = (w_h0_digitsNow_45).toInt := rfl
              have hP9 := hP.sub (ws' := [(h0, .inr (2, [.int w_h0_awaited_53, .int v_x_askedNow, .int v_x_signNow, .int w_h0_numberNow_44, .int w_h0_digitsNow_45])), (pBk, .inr (1, [.ref y_clauses, .ref y_asked, .ref y_signs, .ref y_numbers, .ref y_paces])), (y_clauses, .inl (cI, 10, .inl f_y_clauses)), (y_asked, .inl (cI, 160, .inl f_y_asked)), (y_signs, .inl (cI, 160, .inl f_y_signs)), (y_numbers, .inl (cI, 160, .inl f_y_numbers)), (y_paces, .inl (cI, 160, .inl f_y_paces))]) [6, 0, 1, 2, 3, 4, 5] rfl
              have hD9 := hD.sub (ws' := [(h0, .inr (2, [.int w_h0_awaited_53, .int v_x_askedNow, .int v_x_signNow, .int w_h0_numberNow_44, .int w_h0_digitsNow_45])), (pBk, .inr (1, [.ref y_clauses, .ref y_asked, .ref y_signs, .ref y_numbers, .ref y_paces])), (y_clauses, .inl (cI, 10, .inl f_y_clauses)), (y_asked, .inl (cI, 160, .inl f_y_asked)), (y_signs, .inl (cI, 160, .inl f_y_signs)), (y_numbers, .inl (cI, 160, .inl f_y_numbers)), (y_paces, .inl (cI, 160, .inl f_y_paces))]) [6, 0, 1, 2, 3, 4, 5] (by decide) rfl
              have hf9_0 : zGO v_x_awaited_i v_x_digitsNow_i pN_i (0 : Int32).toInt w_h0_awaited_53.toInt w_h0_digitsNow_45.toInt := by first | exact zGO_bl4 (by omega) | exact zGO_bl (by omega) | exact zGO_let (by omega) | exact zGO_letn (by omega) | exact zGO_sig (by omega) | exact zGO_sign (by omega) | exact zGO_num (by omega) | exact zGO_numn (by omega) | exact zGO_mor (by omega) | exact zGO_mor58 (by omega) | exact zGO_morn (by omega) | exact zGO_col (by omega) | exact zGO_coln (by omega) | exact zGO_pac (by omega) | exact zGO_pacn (by omega) | exact zGO_nxt (by omega) | exact zGO_nxtn (by omega)
              have hf9_1 : 0 ≤ (0 : Int32).toInt ∧ (0 : Int32).toInt ≤ 1 := by omega
              have hf9_2 : 0 ≤ w_h0_awaited_53.toInt ∧ w_h0_awaited_53.toInt ≤ 7 := by omega
              have hf9_3 : 0 ≤ v_x_askedNow.toInt ∧ v_x_askedNow.toInt ≤ 4 := by omega
              have hf9_4 : 0 ≤ w_h0_digitsNow_45.toInt ∧ w_h0_digitsNow_45.toInt ≤ 3 := by omega
              have hf9_5 : zr f_y_clauses 10 (0) (16) := R_y_clauses
              have hf9_6 : zr f_y_asked 160 (0) (4) := R_y_asked
              have hf9_7 : zr f_y_paces 160 (0) (9) := R_y_paces
              exact W.zret (v := 0) hx hb hr rfl (fun t ht hW => ⟨⟨0, 0, rfl, rfl, w_h0_awaited_53, v_x_askedNow, v_x_signNow, w_h0_numberNow_44, w_h0_digitsNow_45, f_y_clauses, f_y_asked, f_y_signs, f_y_numbers, f_y_paces, hf9_0, hf9_1, hf9_2, hf9_3, hf9_4, hf9_5, hf9_6, hf9_7, by rw [ht]; exact hP9, va_K.moved hW.alike hK, hD9⟩, hS.F ht⟩) hS.2.2 dX2_goesOn_111
            ·
              exact absurd c_58 (by decide)
    ·
      refine lv_tableIn (tgt := 112) (off := 87) hx hb dX2_goesOn_25 (by rw [hs_2]; omega) (by rw [hs_2]; omega) (by rw [hs_2, q_3]; rfl) (by decide) ?_
      refine lv_aload_n hx hb dX2_goesOn_112 rfl (lv_at hl 0 rfl) ?_
      refine lv_iload_n hx hb dX2_goesOn_113 rfl (lv_at hl 1 rfl) ?_
      refine lv_bipush (v := 58) hx hb dX2_goesOn_114 (by decide) ?_
      refine lv_bipush (v := 6) hx hb dX2_goesOn_116 (by decide) ?_
      have hPc := hP.sub (ws' := [(h0, .inr (2, [.int v_x_awaited, .int v_x_askedNow, .int v_x_signNow, .int v_x_numberNow, .int v_x_digitsNow]))]) [0] rfl
      have hDc := hD.sub (ws' := [(h0, .inr (2, [.int v_x_awaited, .int v_x_askedNow, .int v_x_signNow, .int v_x_numberNow, .int v_x_digitsNow]))]) [0] (by decide) rfl
      have hFc := va_free (wc := [(h0, .inr (2, [.int v_x_awaited, .int v_x_askedNow, .int v_x_signNow, .int v_x_numberNow, .int v_x_digitsNow]))]) hD hS hA [0] rfl
      refine va_calli (va_runV (As := [.int pN, .int 58, .int 6]) (rest := []) ⟨hx, hb, hml, hown, hts⟩ (c_X2_takesMark l dC dI cI cZ (s.heap).size h0 pN pN_i pN_h 58 (58:Int) (by decide) 6 (6:Int) (by decide) (by omega) v_x_awaited v_x_awaited_i v_x_awaited_h (by omega) v_x_askedNow v_x_askedNow_i v_x_askedNow_h (by omega) v_x_signNow v_x_signNow_i v_x_signNow_h v_x_numberNow v_x_numberNow_i v_x_numberNow_h v_x_digitsNow v_x_digitsNow_i v_x_digitsNow_h (by omega)) ⟨callB_of 3 hts (zz_good zw_483) rfl rfl rfl hw1 hw2 (by decide +kernel) ⟨Nat.le_of_ble_eq_true rfl, Nat.le_of_ble_eq_true rfl⟩, hw3, hw4⟩ ⟨fun a U g mk q => by obtain ⟨q0, q1, qP, qK, qD⟩ := q; exact ⟨q0, q1, qP, va_K.moved (u := U) (U := U.calling g mk a) (Vm.Alike.refl U.vm) qK, qD⟩, va_recv hK hPc (ci := 2) (q0 := 0) rfl rfl, fun U hU hW => ⟨rfl, by rw [hU], by rw [hU]; exact hPc, va_K.moved hW.alike hK, hDc.weaken (fun _ _ _ _ => trivial)⟩⟩ rfl rfl hl.1 rfl (lv_room (Nat.le_of_ble_eq_true rfl)) dX2_goesOn_118 ⟨Nat.le_of_ble_eq_true rfl, Nat.le_of_ble_eq_true rfl⟩) hS (fun q _ h => hFc q h) hFc (fun r_59 u t H1 locs ht hvm hpost hB hz1 hk1 hS => ?_)
      subst hpost
      obtain ⟨w_h0_awaited_60, hf_61, hf_62, hf_63, hP1, hK1, hD1⟩ := hB
      rw [ht] at hP1
      obtain ⟨hP, hD⟩ := va_join (wr := [(pBk, .inr (1, [.ref y_clauses, .ref y_asked, .ref y_signs, .ref y_numbers, .ref y_paces])), (y_clauses, .inl (cI, 10, .inl f_y_clauses)), (y_asked, .inl (cI, 160, .inl f_y_asked)), (y_signs, .inl (cI, 160, .inl f_y_signs)), (y_numbers, .inl (cI, 160, .inl f_y_numbers)), (y_paces, .inl (cI, 160, .inl f_y_paces))]) (w1 := [(h0, .inr (2, [.int w_h0_awaited_60, .int v_x_askedNow, .int v_x_signNow, .int v_x_numberNow, .int v_x_digitsNow]))]) hP hD [0] [1, 2, 3, 4, 5, 6] rfl rfl (by decide) (by decide) hk1 hFc hP1 hD1
      generalize H1 = H at hP hS ⊢
      have hP : va_P (dC, dI) vwCl [(pBk, .inr (1, [.ref y_clauses, .ref y_asked, .ref y_signs, .ref y_numbers, .ref y_paces])), (y_clauses, .inl (cI, 10, .inl f_y_clauses)), (y_asked, .inl (cI, 160, .inl f_y_asked)), (y_signs, .inl (cI, 160, .inl f_y_signs)), (y_numbers, .inl (cI, 160, .inl f_y_numbers)), (y_paces, .inl (cI, 160, .inl f_y_paces)), (h0, .inr (2, [.int w_h0_awaited_60, .int v_x_askedNow, .int v_x_signNow, .int v_x_numberNow, .int v_x_digitsNow]))] H := hP
      have hD : va_D A [(pBk, .inr (1, [.ref y_clauses, .ref y_asked, .ref y_signs, .ref y_numbers, .ref y_paces])), (y_clauses, .inl (cI, 10, .inl f_y_clauses)), (y_asked, .inl (cI, 160, .inl f_y_asked)), (y_signs, .inl (cI, 160, .inl f_y_signs)), (y_numbers, .inl (cI, 160, .inl f_y_numbers)), (y_paces, .inl (cI, 160, .inl f_y_paces)), (h0, .inr (2, [.int w_h0_awaited_60, .int v_x_askedNow, .int v_x_signNow, .int v_x_numberNow, .int v_x_digitsNow]))] := hD
      have hf_61 : (r_59 = 1 ∧ (pN_i = (58:Int))) ∨ (r_59 = 0 ∧ ¬ (pN_i = (58:Int))) := hf_61
      have hf_62 : ¬ pN_i = (58:Int) ∨ w_h0_awaited_60.toInt = (6:Int) := hf_62
      have hf_63 : 0 ≤ w_h0_awaited_60.toInt ∧ w_h0_awaited_60.toInt ≤ 7 := hf_63
      rcases hf_61 with ⟨rfl, hf_61⟩ | ⟨rfl, hf_61⟩
      ·
        have hu9 : (1 : Int32).toInt = (1:Int) := (by decide)
        have hx9_w_h0_awaited : (w_h0_awaited_60 : Int32).toInt = (w_h0_awaited_60).toInt := rfl
        have hx9_w_h0_askedNow : (v_x_askedNow : Int32).toInt = v_x_askedNow_i := v_x_askedNow_h
        have hx9_w_h0_signNow : (v_x_signNow : Int32).toInt = v_x_signNow_i := v_x_signNow_h
        have hx9_w_h0_numberNow : (v_x_numberNow : Int32).toInt = v_x_numberNow_i := v_x_numberNow_h
        have hx9_w_h0_digitsNow : (v_x_digitsNow : Int32).toInt = v_x_digitsNow_i := v_x_digitsNow_h
        have hP9 := hP.sub (ws' := [(h0, .inr (2, [.int w_h0_awaited_60, .int v_x_askedNow, .int v_x_signNow, .int v_x_numberNow, .int v_x_digitsNow])), (pBk, .inr (1, [.ref y_clauses, .ref y_asked, .ref y_signs, .ref y_numbers, .ref y_paces])), (y_clauses, .inl (cI, 10, .inl f_y_clauses)), (y_asked, .inl (cI, 160, .inl f_y_asked)), (y_signs, .inl (cI, 160, .inl f_y_signs)), (y_numbers, .inl (cI, 160, .inl f_y_numbers)), (y_paces, .inl (cI, 160, .inl f_y_paces))]) [6, 0, 1, 2, 3, 4, 5] rfl
        have hD9 := hD.sub (ws' := [(h0, .inr (2, [.int w_h0_awaited_60, .int v_x_askedNow, .int v_x_signNow, .int v_x_numberNow, .int v_x_digitsNow])), (pBk, .inr (1, [.ref y_clauses, .ref y_asked, .ref y_signs, .ref y_numbers, .ref y_paces])), (y_clauses, .inl (cI, 10, .inl f_y_clauses)), (y_asked, .inl (cI, 160, .inl f_y_asked)), (y_signs, .inl (cI, 160, .inl f_y_signs)), (y_numbers, .inl (cI, 160, .inl f_y_numbers)), (y_paces, .inl (cI, 160, .inl f_y_paces))]) [6, 0, 1, 2, 3, 4, 5] (by decide) rfl
        have hf9_0 : zGO v_x_awaited_i v_x_digitsNow_i pN_i (1 : Int32).toInt w_h0_awaited_60.toInt v_x_digitsNow.toInt := by first | exact zGO_bl4 (by omega) | exact zGO_bl (by omega) | exact zGO_let (by omega) | exact zGO_letn (by omega) | exact zGO_sig (by omega) | exact zGO_sign (by omega) | exact zGO_num (by omega) | exact zGO_numn (by omega) | exact zGO_mor (by omega) | exact zGO_mor58 (by omega) | exact zGO_morn (by omega) | exact zGO_col (by omega) | exact zGO_coln (by omega) | exact zGO_pac (by omega) | exact zGO_pacn (by omega) | exact zGO_nxt (by omega) | exact zGO_nxtn (by omega)
        have hf9_1 : 0 ≤ (1 : Int32).toInt ∧ (1 : Int32).toInt ≤ 1 := by omega
        have hf9_2 : 0 ≤ w_h0_awaited_60.toInt ∧ w_h0_awaited_60.toInt ≤ 7 := by omega
        have hf9_3 : 0 ≤ v_x_askedNow.toInt ∧ v_x_askedNow.toInt ≤ 4 := by omega
        have hf9_4 : 0 ≤ v_x_digitsNow.toInt ∧ v_x_digitsNow.toInt ≤ 3 := by omega
        have hf9_5 : zr f_y_clauses 10 (0) (16) := R_y_clauses
        have hf9_6 : zr f_y_asked 160 (0) (4) := R_y_asked
        have hf9_7 : zr f_y_paces 160 (0) (9) := R_y_paces
        exact W.zret (v := 1) hx hb hr rfl (fun t ht hW => ⟨⟨1, 1, rfl, rfl, w_h0_awaited_60, v_x_askedNow, v_x_signNow, v_x_numberNow, v_x_digitsNow, f_y_clauses, f_y_asked, f_y_signs, f_y_numbers, f_y_paces, hf9_0, hf9_1, hf9_2, hf9_3, hf9_4, hf9_5, hf9_6, hf9_7, by rw [ht]; exact hP9, va_K.moved hW.alike hK, hD9⟩, hS.F ht⟩) hS.2.2 dX2_goesOn_121
      ·
        have hu9 : (0 : Int32).toInt = (0:Int) := (by decide)
        have hx9_w_h0_awaited : (w_h0_awaited_60 : Int32).toInt = (w_h0_awaited_60).toInt := rfl
        have hx9_w_h0_askedNow : (v_x_askedNow : Int32).toInt = v_x_askedNow_i := v_x_askedNow_h
        have hx9_w_h0_signNow : (v_x_signNow : Int32).toInt = v_x_signNow_i := v_x_signNow_h
        have hx9_w_h0_numberNow : (v_x_numberNow : Int32).toInt = v_x_numberNow_i := v_x_numberNow_h
        have hx9_w_h0_digitsNow : (v_x_digitsNow : Int32).toInt = v_x_digitsNow_i := v_x_digitsNow_h
        have hP9 := hP.sub (ws' := [(h0, .inr (2, [.int w_h0_awaited_60, .int v_x_askedNow, .int v_x_signNow, .int v_x_numberNow, .int v_x_digitsNow])), (pBk, .inr (1, [.ref y_clauses, .ref y_asked, .ref y_signs, .ref y_numbers, .ref y_paces])), (y_clauses, .inl (cI, 10, .inl f_y_clauses)), (y_asked, .inl (cI, 160, .inl f_y_asked)), (y_signs, .inl (cI, 160, .inl f_y_signs)), (y_numbers, .inl (cI, 160, .inl f_y_numbers)), (y_paces, .inl (cI, 160, .inl f_y_paces))]) [6, 0, 1, 2, 3, 4, 5] rfl
        have hD9 := hD.sub (ws' := [(h0, .inr (2, [.int w_h0_awaited_60, .int v_x_askedNow, .int v_x_signNow, .int v_x_numberNow, .int v_x_digitsNow])), (pBk, .inr (1, [.ref y_clauses, .ref y_asked, .ref y_signs, .ref y_numbers, .ref y_paces])), (y_clauses, .inl (cI, 10, .inl f_y_clauses)), (y_asked, .inl (cI, 160, .inl f_y_asked)), (y_signs, .inl (cI, 160, .inl f_y_signs)), (y_numbers, .inl (cI, 160, .inl f_y_numbers)), (y_paces, .inl (cI, 160, .inl f_y_paces))]) [6, 0, 1, 2, 3, 4, 5] (by decide) rfl
        have hf9_0 : zGO v_x_awaited_i v_x_digitsNow_i pN_i (0 : Int32).toInt w_h0_awaited_60.toInt v_x_digitsNow.toInt := by first | exact zGO_bl4 (by omega) | exact zGO_bl (by omega) | exact zGO_let (by omega) | exact zGO_letn (by omega) | exact zGO_sig (by omega) | exact zGO_sign (by omega) | exact zGO_num (by omega) | exact zGO_numn (by omega) | exact zGO_mor (by omega) | exact zGO_mor58 (by omega) | exact zGO_morn (by omega) | exact zGO_col (by omega) | exact zGO_coln (by omega) | exact zGO_pac (by omega) | exact zGO_pacn (by omega) | exact zGO_nxt (by omega) | exact zGO_nxtn (by omega)
        have hf9_1 : 0 ≤ (0 : Int32).toInt ∧ (0 : Int32).toInt ≤ 1 := by omega
        have hf9_2 : 0 ≤ w_h0_awaited_60.toInt ∧ w_h0_awaited_60.toInt ≤ 7 := by omega
        have hf9_3 : 0 ≤ v_x_askedNow.toInt ∧ v_x_askedNow.toInt ≤ 4 := by omega
        have hf9_4 : 0 ≤ v_x_digitsNow.toInt ∧ v_x_digitsNow.toInt ≤ 3 := by omega
        have hf9_5 : zr f_y_clauses 10 (0) (16) := R_y_clauses
        have hf9_6 : zr f_y_asked 160 (0) (4) := R_y_asked
        have hf9_7 : zr f_y_paces 160 (0) (9) := R_y_paces
        exact W.zret (v := 0) hx hb hr rfl (fun t ht hW => ⟨⟨0, 0, rfl, rfl, w_h0_awaited_60, v_x_askedNow, v_x_signNow, v_x_numberNow, v_x_digitsNow, f_y_clauses, f_y_asked, f_y_signs, f_y_numbers, f_y_paces, hf9_0, hf9_1, hf9_2, hf9_3, hf9_4, hf9_5, hf9_6, hf9_7, by rw [ht]; exact hP9, va_K.moved hW.alike hK, hD9⟩, hS.F ht⟩) hS.2.2 dX2_goesOn_121
    ·
      refine lv_tableIn (tgt := 122) (off := 97) hx hb dX2_goesOn_25 (by rw [hs_2]; omega) (by rw [hs_2]; omega) (by rw [hs_2, q_3]; rfl) (by decide) ?_
      refine lv_aload_n hx hb dX2_goesOn_122 rfl (lv_at hl 0 rfl) ?_
      refine lv_iload_n hx hb dX2_goesOn_123 rfl (lv_at hl 1 rfl) ?_
      refine lv_aload_n hx hb dX2_goesOn_124 rfl (lv_at hl 2 rfl) ?_
      have hPc := hP.sub (ws' := [(h0, .inr (2, [.int v_x_awaited, .int v_x_askedNow, .int v_x_signNow, .int v_x_numberNow, .int v_x_digitsNow])), (pBk, .inr (1, [.ref y_clauses, .ref y_asked, .ref y_signs, .ref y_numbers, .ref y_paces])), (y_clauses, .inl (cI, 10, .inl f_y_clauses)), (y_asked, .inl (cI, 160, .inl f_y_asked)), (y_signs, .inl (cI, 160, .inl f_y_signs)), (y_numbers, .inl (cI, 160, .inl f_y_numbers)), (y_paces, .inl (cI, 160, .inl f_y_paces))]) [0, 1, 2, 3, 4, 5, 6] rfl
      have hDc := hD.sub (ws' := [(h0, .inr (2, [.int v_x_awaited, .int v_x_askedNow, .int v_x_signNow, .int v_x_numberNow, .int v_x_digitsNow])), (pBk, .inr (1, [.ref y_clauses, .ref y_asked, .ref y_signs, .ref y_numbers, .ref y_paces])), (y_clauses, .inl (cI, 10, .inl f_y_clauses)), (y_asked, .inl (cI, 160, .inl f_y_asked)), (y_signs, .inl (cI, 160, .inl f_y_signs)), (y_numbers, .inl (cI, 160, .inl f_y_numbers)), (y_paces, .inl (cI, 160, .inl f_y_paces))]) [0, 1, 2, 3, 4, 5, 6] (by decide) rfl
      have hFc := va_free (wc := [(h0, .inr (2, [.int v_x_awaited, .int v_x_askedNow, .int v_x_signNow, .int v_x_numberNow, .int v_x_digitsNow])), (pBk, .inr (1, [.ref y_clauses, .ref y_asked, .ref y_signs, .ref y_numbers, .ref y_paces])), (y_clauses, .inl (cI, 10, .inl f_y_clauses)), (y_asked, .inl (cI, 160, .inl f_y_asked)), (y_signs, .inl (cI, 160, .inl f_y_signs)), (y_numbers, .inl (cI, 160, .inl f_y_numbers)), (y_paces, .inl (cI, 160, .inl f_y_paces))]) hD hS hA [0, 1, 2, 3, 4, 5, 6] rfl
      refine va_calli (va_runV (As := [.int pN, .ref pBk]) (rest := []) ⟨hx, hb, hml, hown, hts⟩ (c_X2_takesPace l dC dI cI cZ (s.heap).size h0 pN pN_i pN_h pBk v_x_awaited v_x_awaited_i v_x_awaited_h (by omega) v_x_askedNow v_x_askedNow_i v_x_askedNow_h (by omega) v_x_signNow v_x_signNow_i v_x_signNow_h v_x_numberNow v_x_numberNow_i v_x_numberNow_h v_x_digitsNow v_x_digitsNow_i v_x_digitsNow_h (by omega) y_clauses y_asked y_signs y_numbers y_paces f_y_clauses R_y_clauses f_y_asked R_y_asked f_y_signs f_y_numbers f_y_paces R_y_paces) ⟨callB_of 2 hts (zz_good zw_487) rfl rfl rfl hw1 hw17 (by decide +kernel) ⟨Nat.le_of_ble_eq_true rfl, Nat.le_of_ble_eq_true rfl⟩, hw18, hw19⟩ ⟨fun a U g mk q => by obtain ⟨q0, q1, qP, qK, qD⟩ := q; exact ⟨q0, q1, qP, va_K.moved (u := U) (U := U.calling g mk a) (Vm.Alike.refl U.vm) qK, qD⟩, va_recv hK hPc (ci := 2) (q0 := 0) rfl rfl, fun U hU hW => ⟨rfl, by rw [hU], by rw [hU]; exact hPc, va_K.moved hW.alike hK, hDc.weaken (fun _ _ _ _ => trivial)⟩⟩ rfl rfl hl.1 rfl (lv_room (Nat.le_of_ble_eq_true rfl)) dX2_goesOn_125 ⟨Nat.le_of_ble_eq_true rfl, Nat.le_of_ble_eq_true rfl⟩) hS (fun q _ h => hFc q h) hFc (fun r_64 u t H1 locs ht hvm hpost hB hz1 hk1 hS => ?_)
      subst hpost
      obtain ⟨w_h0_awaited_65, g_y_clauses_66, g_y_asked_67, g_y_signs_68, g_y_numbers_69, g_y_paces_70, hf_71, hf_72, hf_73, hf_74, hf_75, hf_76, hP1, hK1, hD1⟩ := hB
      rw [ht] at hP1
      obtain ⟨hP, hD⟩ := va_join (wr := []) (w1 := [(h0, .inr (2, [.int w_h0_awaited_65, .int v_x_askedNow, .int v_x_signNow, .int v_x_numberNow, .int v_x_digitsNow])), (pBk, .inr (1, [.ref y_clauses, .ref y_asked, .ref y_signs, .ref y_numbers, .ref y_paces])), (y_clauses, .inl (cI, 10, .inl g_y_clauses_66)), (y_asked, .inl (cI, 160, .inl g_y_asked_67)), (y_signs, .inl (cI, 160, .inl g_y_signs_68)), (y_numbers, .inl (cI, 160, .inl g_y_numbers_69)), (y_paces, .inl (cI, 160, .inl g_y_paces_70))]) hP hD [0, 1, 2, 3, 4, 5, 6] [] rfl rfl (by decide) (by decide) hk1 hFc hP1 hD1
      generalize H1 = H at hP hS ⊢
      have hP : va_P (dC, dI) vwCl [(h0, .inr (2, [.int w_h0_awaited_65, .int v_x_askedNow, .int v_x_signNow, .int v_x_numberNow, .int v_x_digitsNow])), (pBk, .inr (1, [.ref y_clauses, .ref y_asked, .ref y_signs, .ref y_numbers, .ref y_paces])), (y_clauses, .inl (cI, 10, .inl g_y_clauses_66)), (y_asked, .inl (cI, 160, .inl g_y_asked_67)), (y_signs, .inl (cI, 160, .inl g_y_signs_68)), (y_numbers, .inl (cI, 160, .inl g_y_numbers_69)), (y_paces, .inl (cI, 160, .inl g_y_paces_70))] H := hP
      have hD : va_D A [(h0, .inr (2, [.int w_h0_awaited_65, .int v_x_askedNow, .int v_x_signNow, .int v_x_numberNow, .int v_x_digitsNow])), (pBk, .inr (1, [.ref y_clauses, .ref y_asked, .ref y_signs, .ref y_numbers, .ref y_paces])), (y_clauses, .inl (cI, 10, .inl g_y_clauses_66)), (y_asked, .inl (cI, 160, .inl g_y_asked_67)), (y_signs, .inl (cI, 160, .inl g_y_signs_68)), (y_numbers, .inl (cI, 160, .inl g_y_numbers_69)), (y_paces, .inl (cI, 160, .inl g_y_paces_70))] := hD
      have hf_71 : (r_64 = 1 ∧ ((48 ≤ pN_i ∧ pN_i ≤ 57))) ∨ (r_64 = 0 ∧ ¬ ((48 ≤ pN_i ∧ pN_i ≤ 57))) := hf_71
      have hf_72 : ¬ (48 ≤ pN_i ∧ pN_i ≤ 57) ∨ w_h0_awaited_65.toInt = 7 := hf_72
      have hf_73 : 0 ≤ w_h0_awaited_65.toInt ∧ w_h0_awaited_65.toInt ≤ 7 := hf_73
      have hf_74 : zr g_y_clauses_66 10 (0) (16) := hf_74
      have hf_75 : zr g_y_asked_67 160 (0) (4) := hf_75
      have hf_76 : zr g_y_paces_70 160 (0) (9) := hf_76
      rcases hf_71 with ⟨rfl, hf_71⟩ | ⟨rfl, hf_71⟩
      ·
        have hu9 : (1 : Int32).toInt = (1:Int) := (by decide)
        have hx9_w_h0_awaited : (w_h0_awaited_65 : Int32).toInt = (w_h0_awaited_65).toInt := rfl
        have hx9_w_h0_askedNow : (v_x_askedNow : Int32).toInt = v_x_askedNow_i := v_x_askedNow_h
        have hx9_w_h0_signNow : (v_x_signNow : Int32).toInt = v_x_signNow_i := v_x_signNow_h
        have hx9_w_h0_numberNow : (v_x_numberNow : Int32).toInt = v_x_numberNow_i := v_x_numberNow_h
        have hx9_w_h0_digitsNow : (v_x_digitsNow : Int32).toInt = v_x_digitsNow_i := v_x_digitsNow_h
        have hP9 := hP.sub (ws' := [(h0, .inr (2, [.int w_h0_awaited_65, .int v_x_askedNow, .int v_x_signNow, .int v_x_numberNow, .int v_x_digitsNow])), (pBk, .inr (1, [.ref y_clauses, .ref y_asked, .ref y_signs, .ref y_numbers, .ref y_paces])), (y_clauses, .inl (cI, 10, .inl g_y_clauses_66)), (y_asked, .inl (cI, 160, .inl g_y_asked_67)), (y_signs, .inl (cI, 160, .inl g_y_signs_68)), (y_numbers, .inl (cI, 160, .inl g_y_numbers_69)), (y_paces, .inl (cI, 160, .inl g_y_paces_70))]) [0, 1, 2, 3, 4, 5, 6] rfl
        have hD9 := hD.sub (ws' := [(h0, .inr (2, [.int w_h0_awaited_65, .int v_x_askedNow, .int v_x_signNow, .int v_x_numberNow, .int v_x_digitsNow])), (pBk, .inr (1, [.ref y_clauses, .ref y_asked, .ref y_signs, .ref y_numbers, .ref y_paces])), (y_clauses, .inl (cI, 10, .inl g_y_clauses_66)), (y_asked, .inl (cI, 160, .inl g_y_asked_67)), (y_signs, .inl (cI, 160, .inl g_y_signs_68)), (y_numbers, .inl (cI, 160, .inl g_y_numbers_69)), (y_paces, .inl (cI, 160, .inl g_y_paces_70))]) [0, 1, 2, 3, 4, 5, 6] (by decide) rfl
        have hf9_0 : zGO v_x_awaited_i v_x_digitsNow_i pN_i (1 : Int32).toInt w_h0_awaited_65.toInt v_x_digitsNow.toInt := by first | exact zGO_bl4 (by omega) | exact zGO_bl (by omega) | exact zGO_let (by omega) | exact zGO_letn (by omega) | exact zGO_sig (by omega) | exact zGO_sign (by omega) | exact zGO_num (by omega) | exact zGO_numn (by omega) | exact zGO_mor (by omega) | exact zGO_mor58 (by omega) | exact zGO_morn (by omega) | exact zGO_col (by omega) | exact zGO_coln (by omega) | exact zGO_pac (by omega) | exact zGO_pacn (by omega) | exact zGO_nxt (by omega) | exact zGO_nxtn (by omega)
        have hf9_1 : 0 ≤ (1 : Int32).toInt ∧ (1 : Int32).toInt ≤ 1 := by omega
        have hf9_2 : 0 ≤ w_h0_awaited_65.toInt ∧ w_h0_awaited_65.toInt ≤ 7 := by omega
        have hf9_3 : 0 ≤ v_x_askedNow.toInt ∧ v_x_askedNow.toInt ≤ 4 := by omega
        have hf9_4 : 0 ≤ v_x_digitsNow.toInt ∧ v_x_digitsNow.toInt ≤ 3 := by omega
        have hf9_5 : zr g_y_clauses_66 10 (0) (16) := hf_74
        have hf9_6 : zr g_y_asked_67 160 (0) (4) := hf_75
        have hf9_7 : zr g_y_paces_70 160 (0) (9) := hf_76
        exact W.zret (v := 1) hx hb hr rfl (fun t ht hW => ⟨⟨1, 1, rfl, rfl, w_h0_awaited_65, v_x_askedNow, v_x_signNow, v_x_numberNow, v_x_digitsNow, g_y_clauses_66, g_y_asked_67, g_y_signs_68, g_y_numbers_69, g_y_paces_70, hf9_0, hf9_1, hf9_2, hf9_3, hf9_4, hf9_5, hf9_6, hf9_7, by rw [ht]; exact hP9, va_K.moved hW.alike hK, hD9⟩, hS.F ht⟩) hS.2.2 dX2_goesOn_128
      ·
        have hu9 : (0 : Int32).toInt = (0:Int) := (by decide)
        have hx9_w_h0_awaited : (w_h0_awaited_65 : Int32).toInt = (w_h0_awaited_65).toInt := rfl
        have hx9_w_h0_askedNow : (v_x_askedNow : Int32).toInt = v_x_askedNow_i := v_x_askedNow_h
        have hx9_w_h0_signNow : (v_x_signNow : Int32).toInt = v_x_signNow_i := v_x_signNow_h
        have hx9_w_h0_numberNow : (v_x_numberNow : Int32).toInt = v_x_numberNow_i := v_x_numberNow_h
        have hx9_w_h0_digitsNow : (v_x_digitsNow : Int32).toInt = v_x_digitsNow_i := v_x_digitsNow_h
        have hP9 := hP.sub (ws' := [(h0, .inr (2, [.int w_h0_awaited_65, .int v_x_askedNow, .int v_x_signNow, .int v_x_numberNow, .int v_x_digitsNow])), (pBk, .inr (1, [.ref y_clauses, .ref y_asked, .ref y_signs, .ref y_numbers, .ref y_paces])), (y_clauses, .inl (cI, 10, .inl g_y_clauses_66)), (y_asked, .inl (cI, 160, .inl g_y_asked_67)), (y_signs, .inl (cI, 160, .inl g_y_signs_68)), (y_numbers, .inl (cI, 160, .inl g_y_numbers_69)), (y_paces, .inl (cI, 160, .inl g_y_paces_70))]) [0, 1, 2, 3, 4, 5, 6] rfl
        have hD9 := hD.sub (ws' := [(h0, .inr (2, [.int w_h0_awaited_65, .int v_x_askedNow, .int v_x_signNow, .int v_x_numberNow, .int v_x_digitsNow])), (pBk, .inr (1, [.ref y_clauses, .ref y_asked, .ref y_signs, .ref y_numbers, .ref y_paces])), (y_clauses, .inl (cI, 10, .inl g_y_clauses_66)), (y_asked, .inl (cI, 160, .inl g_y_asked_67)), (y_signs, .inl (cI, 160, .inl g_y_signs_68)), (y_numbers, .inl (cI, 160, .inl g_y_numbers_69)), (y_paces, .inl (cI, 160, .inl g_y_paces_70))]) [0, 1, 2, 3, 4, 5, 6] (by decide) rfl
        have hf9_0 : zGO v_x_awaited_i v_x_digitsNow_i pN_i (0 : Int32).toInt w_h0_awaited_65.toInt v_x_digitsNow.toInt := by first | exact zGO_bl4 (by omega) | exact zGO_bl (by omega) | exact zGO_let (by omega) | exact zGO_letn (by omega) | exact zGO_sig (by omega) | exact zGO_sign (by omega) | exact zGO_num (by omega) | exact zGO_numn (by omega) | exact zGO_mor (by omega) | exact zGO_mor58 (by omega) | exact zGO_morn (by omega) | exact zGO_col (by omega) | exact zGO_coln (by omega) | exact zGO_pac (by omega) | exact zGO_pacn (by omega) | exact zGO_nxt (by omega) | exact zGO_nxtn (by omega)
        have hf9_1 : 0 ≤ (0 : Int32).toInt ∧ (0 : Int32).toInt ≤ 1 := by omega
        have hf9_2 : 0 ≤ w_h0_awaited_65.toInt ∧ w_h0_awaited_65.toInt ≤ 7 := by omega
        have hf9_3 : 0 ≤ v_x_askedNow.toInt ∧ v_x_askedNow.toInt ≤ 4 := by omega
        have hf9_4 : 0 ≤ v_x_digitsNow.toInt ∧ v_x_digitsNow.toInt ≤ 3 := by omega
        have hf9_5 : zr g_y_clauses_66 10 (0) (16) := hf_74
        have hf9_6 : zr g_y_asked_67 160 (0) (4) := hf_75
        have hf9_7 : zr g_y_paces_70 160 (0) (9) := hf_76
        exact W.zret (v := 0) hx hb hr rfl (fun t ht hW => ⟨⟨0, 0, rfl, rfl, w_h0_awaited_65, v_x_askedNow, v_x_signNow, v_x_numberNow, v_x_digitsNow, g_y_clauses_66, g_y_asked_67, g_y_signs_68, g_y_numbers_69, g_y_paces_70, hf9_0, hf9_1, hf9_2, hf9_3, hf9_4, hf9_5, hf9_6, hf9_7, by rw [ht]; exact hP9, va_K.moved hW.alike hK, hD9⟩, hS.F ht⟩) hS.2.2 dX2_goesOn_128
  ·
    have c_1 : pN_i = (32:Int) := zz_eq pN_h (by decide) c_1
    refine lv_aload_n hx hb dX2_goesOn_6 rfl (lv_at hl 0 rfl) ?_
    refine va_get (D := (dC, dI)) (ci := 2) (v := .int v_x_awaited) (C := RX2) (T := TX2) (N := 5) hx hb hts hiX2 hown hK hP 0 rfl rfl 0 (by decide) hw0 (fun _ h9 => h9) rfl dX2_goesOn_7 ?_
    refine lv_iconst (v := 4) hx hb dX2_goesOn_10 (by decide) ?_
    refine lv_icmp_ne (tgt := 19) hx hb dX2_goesOn_11 (by decide) (fun c_77 => ?_) (fun c_77 => ?_)
    ·
      have c_77 : ¬ (v_x_awaited_i = (4:Int)) := zz_eqn v_x_awaited_h (by decide) c_77
      refine lv_iconst (v := 1) hx hb dX2_goesOn_19 (by decide) ?_
      have hu9 : (1 : Int32).toInt = (1:Int) := (by decide)
      have hx9_w_h0_awaited : (v_x_awaited : Int32).toInt = v_x_awaited_i := v_x_awaited_h
      have hx9_w_h0_askedNow : (v_x_askedNow : Int32).toInt = v_x_askedNow_i := v_x_askedNow_h
      have hx9_w_h0_signNow : (v_x_signNow : Int32).toInt = v_x_signNow_i := v_x_signNow_h
      have hx9_w_h0_numberNow : (v_x_numberNow : Int32).toInt = v_x_numberNow_i := v_x_numberNow_h
      have hx9_w_h0_digitsNow : (v_x_digitsNow : Int32).toInt = v_x_digitsNow_i := v_x_digitsNow_h
      have hP9 := hP.sub (ws' := [(h0, .inr (2, [.int v_x_awaited, .int v_x_askedNow, .int v_x_signNow, .int v_x_numberNow, .int v_x_digitsNow])), (pBk, .inr (1, [.ref y_clauses, .ref y_asked, .ref y_signs, .ref y_numbers, .ref y_paces])), (y_clauses, .inl (cI, 10, .inl f_y_clauses)), (y_asked, .inl (cI, 160, .inl f_y_asked)), (y_signs, .inl (cI, 160, .inl f_y_signs)), (y_numbers, .inl (cI, 160, .inl f_y_numbers)), (y_paces, .inl (cI, 160, .inl f_y_paces))]) [0, 1, 2, 3, 4, 5, 6] rfl
      have hD9 := hD.sub (ws' := [(h0, .inr (2, [.int v_x_awaited, .int v_x_askedNow, .int v_x_signNow, .int v_x_numberNow, .int v_x_digitsNow])), (pBk, .inr (1, [.ref y_clauses, .ref y_asked, .ref y_signs, .ref y_numbers, .ref y_paces])), (y_clauses, .inl (cI, 10, .inl f_y_clauses)), (y_asked, .inl (cI, 160, .inl f_y_asked)), (y_signs, .inl (cI, 160, .inl f_y_signs)), (y_numbers, .inl (cI, 160, .inl f_y_numbers)), (y_paces, .inl (cI, 160, .inl f_y_paces))]) [0, 1, 2, 3, 4, 5, 6] (by decide) rfl
      have hf9_0 : zGO v_x_awaited_i v_x_digitsNow_i pN_i (1 : Int32).toInt v_x_awaited.toInt v_x_digitsNow.toInt := by first | exact zGO_bl4 (by omega) | exact zGO_bl (by omega) | exact zGO_let (by omega) | exact zGO_letn (by omega) | exact zGO_sig (by omega) | exact zGO_sign (by omega) | exact zGO_num (by omega) | exact zGO_numn (by omega) | exact zGO_mor (by omega) | exact zGO_mor58 (by omega) | exact zGO_morn (by omega) | exact zGO_col (by omega) | exact zGO_coln (by omega) | exact zGO_pac (by omega) | exact zGO_pacn (by omega) | exact zGO_nxt (by omega) | exact zGO_nxtn (by omega)
      have hf9_1 : 0 ≤ (1 : Int32).toInt ∧ (1 : Int32).toInt ≤ 1 := by omega
      have hf9_2 : 0 ≤ v_x_awaited.toInt ∧ v_x_awaited.toInt ≤ 7 := by omega
      have hf9_3 : 0 ≤ v_x_askedNow.toInt ∧ v_x_askedNow.toInt ≤ 4 := by omega
      have hf9_4 : 0 ≤ v_x_digitsNow.toInt ∧ v_x_digitsNow.toInt ≤ 3 := by omega
      have hf9_5 : zr f_y_clauses 10 (0) (16) := R_y_clauses
      have hf9_6 : zr f_y_asked 160 (0) (4) := R_y_asked
      have hf9_7 : zr f_y_paces 160 (0) (9) := R_y_paces
      exact W.zret (v := 1) hx hb hr rfl (fun t ht hW => ⟨⟨1, 1, rfl, rfl, v_x_awaited, v_x_askedNow, v_x_signNow, v_x_numberNow, v_x_digitsNow, f_y_clauses, f_y_asked, f_y_signs, f_y_numbers, f_y_paces, hf9_0, hf9_1, hf9_2, hf9_3, hf9_4, hf9_5, hf9_6, hf9_7, by rw [ht]; exact hP9, va_K.moved hW.alike hK, hD9⟩, hS.F ht⟩) hS.2.2 dX2_goesOn_20
    ·
      have c_77 : v_x_awaited_i = (4:Int) := zz_eq v_x_awaited_h (by decide) c_77
      refine lv_aload_n hx hb dX2_goesOn_14 rfl (lv_at hl 0 rfl) ?_
      refine lv_iconst (v := 5) hx hb dX2_goesOn_15 (by decide) ?_
      refine va_put (D := (dC, dI)) (ci := 2) (v := .int 5) (ty := .int) (C := RX2) (T := TX2) (N := 5) hx hb hts hiX2 tyX2 tyX2_ok nmX2 hown hK hP hD hS 0 rfl rfl 0 (by decide) hw0 (fun _ h9 => h9) rfl (by decide +kernel) rfl rfl (Nat.le_of_ble_eq_true rfl) dX2_goesOn_16 (fun H locs hP hD hS => ?_)
      have hP : va_P (dC, dI) vwCl [(h0, .inr (2, [.int 5, .int v_x_askedNow, .int v_x_signNow, .int v_x_numberNow, .int v_x_digitsNow])), (pBk, .inr (1, [.ref y_clauses, .ref y_asked, .ref y_signs, .ref y_numbers, .ref y_paces])), (y_clauses, .inl (cI, 10, .inl f_y_clauses)), (y_asked, .inl (cI, 160, .inl f_y_asked)), (y_signs, .inl (cI, 160, .inl f_y_signs)), (y_numbers, .inl (cI, 160, .inl f_y_numbers)), (y_paces, .inl (cI, 160, .inl f_y_paces))] H := hP
      have hD : va_D A [(h0, .inr (2, [.int 5, .int v_x_askedNow, .int v_x_signNow, .int v_x_numberNow, .int v_x_digitsNow])), (pBk, .inr (1, [.ref y_clauses, .ref y_asked, .ref y_signs, .ref y_numbers, .ref y_paces])), (y_clauses, .inl (cI, 10, .inl f_y_clauses)), (y_asked, .inl (cI, 160, .inl f_y_asked)), (y_signs, .inl (cI, 160, .inl f_y_signs)), (y_numbers, .inl (cI, 160, .inl f_y_numbers)), (y_paces, .inl (cI, 160, .inl f_y_paces))] := hD
      refine lv_iconst (v := 1) hx hb dX2_goesOn_19 (by decide) ?_
      have hu9 : (1 : Int32).toInt = (1:Int) := (by decide)
      have hx9_w_h0_awaited : (5 : Int32).toInt = (5:Int) := (by decide)
      have hx9_w_h0_askedNow : (v_x_askedNow : Int32).toInt = v_x_askedNow_i := v_x_askedNow_h
      have hx9_w_h0_signNow : (v_x_signNow : Int32).toInt = v_x_signNow_i := v_x_signNow_h
      have hx9_w_h0_numberNow : (v_x_numberNow : Int32).toInt = v_x_numberNow_i := v_x_numberNow_h
      have hx9_w_h0_digitsNow : (v_x_digitsNow : Int32).toInt = v_x_digitsNow_i := v_x_digitsNow_h
      have hP9 := hP.sub (ws' := [(h0, .inr (2, [.int 5, .int v_x_askedNow, .int v_x_signNow, .int v_x_numberNow, .int v_x_digitsNow])), (pBk, .inr (1, [.ref y_clauses, .ref y_asked, .ref y_signs, .ref y_numbers, .ref y_paces])), (y_clauses, .inl (cI, 10, .inl f_y_clauses)), (y_asked, .inl (cI, 160, .inl f_y_asked)), (y_signs, .inl (cI, 160, .inl f_y_signs)), (y_numbers, .inl (cI, 160, .inl f_y_numbers)), (y_paces, .inl (cI, 160, .inl f_y_paces))]) [0, 1, 2, 3, 4, 5, 6] rfl
      have hD9 := hD.sub (ws' := [(h0, .inr (2, [.int 5, .int v_x_askedNow, .int v_x_signNow, .int v_x_numberNow, .int v_x_digitsNow])), (pBk, .inr (1, [.ref y_clauses, .ref y_asked, .ref y_signs, .ref y_numbers, .ref y_paces])), (y_clauses, .inl (cI, 10, .inl f_y_clauses)), (y_asked, .inl (cI, 160, .inl f_y_asked)), (y_signs, .inl (cI, 160, .inl f_y_signs)), (y_numbers, .inl (cI, 160, .inl f_y_numbers)), (y_paces, .inl (cI, 160, .inl f_y_paces))]) [0, 1, 2, 3, 4, 5, 6] (by decide) rfl
      have hf9_0 : zGO v_x_awaited_i v_x_digitsNow_i pN_i (1 : Int32).toInt (5 : Int32).toInt v_x_digitsNow.toInt := by first | exact zGO_bl4 (by omega) | exact zGO_bl (by omega) | exact zGO_let (by omega) | exact zGO_letn (by omega) | exact zGO_sig (by omega) | exact zGO_sign (by omega) | exact zGO_num (by omega) | exact zGO_numn (by omega) | exact zGO_mor (by omega) | exact zGO_mor58 (by omega) | exact zGO_morn (by omega) | exact zGO_col (by omega) | exact zGO_coln (by omega) | exact zGO_pac (by omega) | exact zGO_pacn (by omega) | exact zGO_nxt (by omega) | exact zGO_nxtn (by omega)
      have hf9_1 : 0 ≤ (1 : Int32).toInt ∧ (1 : Int32).toInt ≤ 1 := by omega
      have hf9_2 : 0 ≤ (5 : Int32).toInt ∧ (5 : Int32).toInt ≤ 7 := by omega
      have hf9_3 : 0 ≤ v_x_askedNow.toInt ∧ v_x_askedNow.toInt ≤ 4 := by omega
      have hf9_4 : 0 ≤ v_x_digitsNow.toInt ∧ v_x_digitsNow.toInt ≤ 3 := by omega
      have hf9_5 : zr f_y_clauses 10 (0) (16) := R_y_clauses
      have hf9_6 : zr f_y_asked 160 (0) (4) := R_y_asked
      have hf9_7 : zr f_y_paces 160 (0) (9) := R_y_paces
      exact W.zret (v := 1) hx hb hr rfl (fun t ht hW => ⟨⟨1, 1, rfl, rfl, (5 : Int32), v_x_askedNow, v_x_signNow, v_x_numberNow, v_x_digitsNow, f_y_clauses, f_y_asked, f_y_signs, f_y_numbers, f_y_paces, hf9_0, hf9_1, hf9_2, hf9_3, hf9_4, hf9_5, hf9_6, hf9_7, by rw [ht]; exact hP9, va_K.moved hW.alike hK, hD9⟩, hS.F ht⟩) hS.2.2 dX2_goesOn_20

set_option maxHeartbeats 8000000 in
set_option maxRecDepth 100000 in
theorem c_X2_faultOf (l : Launch) (dC : Nat → ClassId) (dI : Nat → Nat → Nat) (cI cZ : ClassId) (sz : Nat) (h0 : Nat) (pTa : Nat) (pBk : Nat) (v_x_awaited : Int32) (v_x_awaited_i : Int) (v_x_awaited_h : v_x_awaited.toInt = v_x_awaited_i) (B_v_x_awaited : 0 ≤ v_x_awaited_i ∧ v_x_awaited_i ≤ 7) (v_x_askedNow : Int32) (v_x_askedNow_i : Int) (v_x_askedNow_h : v_x_askedNow.toInt = v_x_askedNow_i) (B_v_x_askedNow : 0 ≤ v_x_askedNow_i ∧ v_x_askedNow_i ≤ 4) (v_x_signNow : Int32) (v_x_signNow_i : Int) (v_x_signNow_h : v_x_signNow.toInt = v_x_signNow_i) (v_x_numberNow : Int32) (v_x_numberNow_i : Int) (v_x_numberNow_h : v_x_numberNow.toInt = v_x_numberNow_i) (v_x_digitsNow : Int32) (v_x_digitsNow_i : Int) (v_x_digitsNow_h : v_x_digitsNow.toInt = v_x_digitsNow_i) (B_v_x_digitsNow : 0 ≤ v_x_digitsNow_i ∧ v_x_digitsNow_i ≤ 3) (v_t_length : Int32) (v_t_length_i : Int) (v_t_length_h : v_t_length.toInt = v_t_length_i) (B_v_t_length : 0 ≤ v_t_length_i ∧ v_t_length_i ≤ 100) (t_bytes : Nat) (f_t_bytes : Nat → Int32) (y_clauses : Nat) (y_asked : Nat) (y_signs : Nat) (y_numbers : Nat) (y_paces : Nat) (f_y_clauses : Nat → Int32) (R_y_clauses : zr f_y_clauses 10 (0) (16)) (f_y_asked : Nat → Int32) (R_y_asked : zr f_y_asked 160 (0) (4)) (f_y_signs : Nat → Int32) (f_y_numbers : Nat → Int32) (f_y_paces : Nat → Int32) (R_y_paces : zr f_y_paces 160 (0) (9)) : Met l yX2_faultOf (Cond.code yX2_faultOf cX2_faultOf 4 (some .int) :: lw_good) ({ frames := 4, cells := 0, slots := 0, locals := 84 }) (va_Pc [.ref h0, .ref pTa, .ref pBk] (fun U => U.heap.size = sz ∧ va_P (dC, dI) vwCl [(h0, .inr (2, [.int v_x_awaited, .int v_x_askedNow, .int v_x_signNow, .int v_x_numberNow, .int v_x_digitsNow])), (pTa, .inr (8, [.int v_t_length, .ref t_bytes])), (t_bytes, .inl (cI, 100, .inl f_t_bytes)), (pBk, .inr (1, [.ref y_clauses, .ref y_asked, .ref y_signs, .ref y_numbers, .ref y_paces])), (y_clauses, .inl (cI, 10, .inl f_y_clauses)), (y_asked, .inl (cI, 160, .inl f_y_asked)), (y_signs, .inl (cI, 160, .inl f_y_signs)), (y_numbers, .inl (cI, 160, .inl f_y_numbers)), (y_paces, .inl (cI, 160, .inl f_y_paces))] U.heap ∧ va_K (dC, dI) vwCl [(cI, .int), (cZ, .boolean)] U ∧ va_D (fun _ => True) [(h0, .inr (2, [.int v_x_awaited, .int v_x_askedNow, .int v_x_signNow, .int v_x_numberNow, .int v_x_digitsNow])), (pTa, .inr (8, [.int v_t_length, .ref t_bytes])), (t_bytes, .inl (cI, 100, .inl f_t_bytes)), (pBk, .inr (1, [.ref y_clauses, .ref y_asked, .ref y_signs, .ref y_numbers, .ref y_paces])), (y_clauses, .inl (cI, 10, .inl f_y_clauses)), (y_asked, .inl (cI, 160, .inl f_y_asked)), (y_signs, .inl (cI, 160, .inl f_y_signs)), (y_numbers, .inl (cI, 160, .inl f_y_numbers)), (y_paces, .inl (cI, 160, .inl f_y_paces))])) (va_Qi (fun (r u : Int32) => r = u) (fun u t => ∃ (w_h0_awaited : Int32) (w_h0_askedNow : Int32) (w_h0_signNow : Int32) (w_h0_numberNow : Int32) (w_h0_digitsNow : Int32) (g_y_clauses : Nat → Int32) (g_y_asked : Nat → Int32) (g_y_signs : Nat → Int32) (g_y_numbers : Nat → Int32) (g_y_paces : Nat → Int32), (u.toInt = fv f_t_bytes v_t_length_i) ∧ (-1 ≤ u.toInt ∧ u.toInt ≤ 100) ∧ (0 ≤ w_h0_awaited.toInt ∧ w_h0_awaited.toInt ≤ 7) ∧ (0 ≤ w_h0_askedNow.toInt ∧ w_h0_askedNow.toInt ≤ 4) ∧ (0 ≤ w_h0_digitsNow.toInt ∧ w_h0_digitsNow.toInt ≤ 3) ∧ (zr g_y_clauses 10 (0) (16)) ∧ (zr g_y_asked 160 (0) (4)) ∧ (zr g_y_paces 160 (0) (9)) ∧ va_P (dC, dI) vwCl [(h0, .inr (2, [.int w_h0_awaited, .int w_h0_askedNow, .int w_h0_signNow, .int w_h0_numberNow, .int w_h0_digitsNow])), (pTa, .inr (8, [.int v_t_length, .ref t_bytes])), (t_bytes, .inl (cI, 100, .inl f_t_bytes)), (pBk, .inr (1, [.ref y_clauses, .ref y_asked, .ref y_signs, .ref y_numbers, .ref y_paces])), (y_clauses, .inl (cI, 10, .inl g_y_clauses)), (y_asked, .inl (cI, 160, .inl g_y_asked)), (y_signs, .inl (cI, 160, .inl g_y_signs)), (y_numbers, .inl (cI, 160, .inl g_y_numbers)), (y_paces, .inl (cI, 160, .inl g_y_paces))] t.heap ∧ va_K (dC, dI) vwCl [(cI, .int), (cZ, .boolean)] t ∧ va_D (va_A [(h0, .inr (2, [.int v_x_awaited, .int v_x_askedNow, .int v_x_signNow, .int v_x_numberNow, .int v_x_digitsNow])), (pTa, .inr (8, [.int v_t_length, .ref t_bytes])), (t_bytes, .inl (cI, 100, .inl f_t_bytes)), (pBk, .inr (1, [.ref y_clauses, .ref y_asked, .ref y_signs, .ref y_numbers, .ref y_paces])), (y_clauses, .inl (cI, 10, .inl f_y_clauses)), (y_asked, .inl (cI, 160, .inl f_y_asked)), (y_signs, .inl (cI, 160, .inl f_y_signs)), (y_numbers, .inl (cI, 160, .inl f_y_numbers)), (y_paces, .inl (cI, 160, .inl f_y_paces))] sz) [(h0, .inr (2, [.int w_h0_awaited, .int w_h0_askedNow, .int w_h0_signNow, .int w_h0_numberNow, .int w_h0_digitsNow])), (pTa, .inr (8, [.int v_t_length, .ref t_bytes])), (t_bytes, .inl (cI, 100, .inl f_t_bytes)), (pBk, .inr (1, [.ref y_clauses, .ref y_asked, .ref y_signs, .ref y_numbers, .ref y_paces])), (y_clauses, .inl (cI, 10, .inl g_y_clauses)), (y_asked, .inl (cI, 160, .inl g_y_asked)), (y_signs, .inl (cI, 160, .inl g_y_signs)), (y_numbers, .inl (cI, 160, .inl g_y_numbers)), (y_paces, .inl (cI, 160, .inl g_y_paces))]) (va_A [(h0, .inr (2, [.int v_x_awaited, .int v_x_askedNow, .int v_x_signNow, .int v_x_numberNow, .int v_x_digitsNow])), (pTa, .inr (8, [.int v_t_length, .ref t_bytes])), (t_bytes, .inl (cI, 100, .inl f_t_bytes)), (pBk, .inr (1, [.ref y_clauses, .ref y_asked, .ref y_signs, .ref y_numbers, .ref y_paces])), (y_clauses, .inl (cI, 10, .inl f_y_clauses)), (y_asked, .inl (cI, 160, .inl f_y_asked)), (y_signs, .inl (cI, 160, .inl f_y_signs)), (y_numbers, .inl (cI, 160, .inl f_y_numbers)), (y_paces, .inl (cI, 160, .inl f_y_paces))] sz)) 0 0 (va_A [(h0, .inr (2, [.int v_x_awaited, .int v_x_askedNow, .int v_x_signNow, .int v_x_numberNow, .int v_x_digitsNow])), (pTa, .inr (8, [.int v_t_length, .ref t_bytes])), (t_bytes, .inl (cI, 100, .inl f_t_bytes)), (pBk, .inr (1, [.ref y_clauses, .ref y_asked, .ref y_signs, .ref y_numbers, .ref y_paces])), (y_clauses, .inl (cI, 10, .inl f_y_clauses)), (y_asked, .inl (cI, 160, .inl f_y_asked)), (y_signs, .inl (cI, 160, .inl f_y_signs)), (y_numbers, .inl (cI, 160, .inl f_y_numbers)), (y_paces, .inl (cI, 160, .inl f_y_paces))] sz) := by
  refine Met.ofW (cc := cX2_faultOf) (maxL := 4) (ret := (some .int)) (by decide) rfl ?_
  intro p e s m args below meth c s₁ B hml hv
  obtain ⟨rfl, hsz, hP, hK, hD0⟩ := hv
  have hx := B.exec
  have hb := B.bytes
  have hr := B.returns
  have hts := atoms_spec (ws := Cond.code yX2_faultOf cX2_faultOf 4 (some .int) :: lw_good) B.pre
  have hown : s.vm.findClass RX2 = some m.cls := findClass_of_methodNamed B.named
  have hlocks := B.notSynchronized
  have hiX2 : ∀ w ∈ wsX20, w ∈ (Cond.code yX2_faultOf cX2_faultOf 4 (some .int) :: lw_good) := fun w h => List.mem_cons_of_mem _ (zi_X2 w h)
  have hiX8 : ∀ w ∈ wsX80, w ∈ (Cond.code yX2_faultOf cX2_faultOf 4 (some .int) :: lw_good) := fun w h => List.mem_cons_of_mem _ (zi_X8 w h)
  have hw0 := hts (.initialized RX1) (List.mem_cons_of_mem _ zw_52)
  have hw1 := hts (.methodLink RX2 27 yX1_clearDraft) (List.mem_cons_of_mem _ zw_450)
  have hw2 := hts (.instanceMethod yX1_clearDraft) (List.mem_cons_of_mem _ zw_451)
  have hw3 := hts (.selects RX1 yX1_clearDraft yX1_clearDraft) (List.mem_cons_of_mem _ zw_452)
  have hw4 := hts (.fieldLink RX2 11 "BunchRace$OrderReader" "awaited" "I") (List.mem_cons_of_mem _ zw_179)
  have hw5 := hts (.fieldLink RX2 32 "BunchRace$Tape" "length" "I") (List.mem_cons_of_mem _ zw_142)
  have hw6 := hts (.fieldLink RX2 37 "BunchRace$Tape" "bytes" "[I") (List.mem_cons_of_mem _ zw_145)
  have hw7 := hts (.initialized RX2) (List.mem_cons_of_mem _ zw_53)
  have hw8 := hts (.methodLink RX2 41 yX2_goesOn) (List.mem_cons_of_mem _ zw_454)
  have hw9 := hts (.instanceMethod yX2_goesOn) (List.mem_cons_of_mem _ zw_456)
  have hw10 := hts (.selects RX2 yX2_goesOn yX2_goesOn) (List.mem_cons_of_mem _ zw_0)
  subst hsz
  have hD := hD0.self (sz := s.heap.size)
  generalize hAe : va_A [(h0, .inr (2, [.int v_x_awaited, .int v_x_askedNow, .int v_x_signNow, .int v_x_numberNow, .int v_x_digitsNow])), (pTa, .inr (8, [.int v_t_length, .ref t_bytes])), (t_bytes, .inl (cI, 100, .inl f_t_bytes)), (pBk, .inr (1, [.ref y_clauses, .ref y_asked, .ref y_signs, .ref y_numbers, .ref y_paces])), (y_clauses, .inl (cI, 10, .inl f_y_clauses)), (y_asked, .inl (cI, 160, .inl f_y_asked)), (y_signs, .inl (cI, 160, .inl f_y_signs)), (y_numbers, .inl (cI, 160, .inl f_y_numbers)), (y_paces, .inl (cI, 160, .inl f_y_paces))] s.heap.size = A at hD ⊢
  have hA : ∀ q : Nat, s.heap.size ≤ q → A q := fun q h => by rw [← hAe]; exact Or.inr h
  have hS : va_S A s.heap s.heap [] := va_S.rf
  have hP : va_P (dC, dI) vwCl [(h0, .inr (2, [.int v_x_awaited, .int v_x_askedNow, .int v_x_signNow, .int v_x_numberNow, .int v_x_digitsNow])), (pTa, .inr (8, [.int v_t_length, .ref t_bytes])), (t_bytes, .inl (cI, 100, .inl f_t_bytes)), (pBk, .inr (1, [.ref y_clauses, .ref y_asked, .ref y_signs, .ref y_numbers, .ref y_paces])), (y_clauses, .inl (cI, 10, .inl f_y_clauses)), (y_asked, .inl (cI, 160, .inl f_y_asked)), (y_signs, .inl (cI, 160, .inl f_y_signs)), (y_numbers, .inl (cI, 160, .inl f_y_numbers)), (y_paces, .inl (cI, 160, .inl f_y_paces))] s.heap := hP
  have hl := lv_entry ([.ref h0, .ref pTa, .ref pBk]) (n := 4) (Nat.le_of_ble_eq_true rfl)
  rw [lg_entry_eq]
  generalize (lg_sl ([.ref h0, .ref pTa, .ref pBk]) ++ List.replicate (4 - (lg_sl ([.ref h0, .ref pTa, .ref pBk])).length) Slot.unset).toArray = ls at hl ⊢
  have hl : lv_has ls 4 [(0, .ref h0), (1, .ref pTa), (2, .ref pBk)] := hl
  refine lv_aload_n hx hb dX2_faultOf_0 rfl (lv_at hl 2 rfl) ?_
  have hPc := hP.sub (ws' := [(pBk, .inr (1, [.ref y_clauses, .ref y_asked, .ref y_signs, .ref y_numbers, .ref y_paces])), (y_clauses, .inl (cI, 10, .inl f_y_clauses))]) [3, 4] rfl
  have hDc := hD.sub (ws' := [(pBk, .inr (1, [.ref y_clauses, .ref y_asked, .ref y_signs, .ref y_numbers, .ref y_paces])), (y_clauses, .inl (cI, 10, .inl f_y_clauses))]) [3, 4] (by decide) rfl
  have hFc := va_free (wc := [(pBk, .inr (1, [.ref y_clauses, .ref y_asked, .ref y_signs, .ref y_numbers, .ref y_paces])), (y_clauses, .inl (cI, 10, .inl f_y_clauses))]) hD hS hA [3, 4] rfl
  refine va_callv (va_runV (As := []) (rest := []) ⟨hx, hb, hml, hown, hts⟩ (c_X1_clearDraft l dC dI cI cZ (s.heap).size pBk y_clauses y_asked y_signs y_numbers y_paces f_y_clauses R_y_clauses) ⟨callB_of 0 hts (zz_good zw_453) rfl rfl rfl hw0 hw1 (by decide +kernel) ⟨Nat.le_of_ble_eq_true rfl, Nat.le_of_ble_eq_true rfl⟩, hw2, hw3⟩ ⟨fun a U g mk q => by obtain ⟨q0, q1, qP, qK, qD⟩ := q; exact ⟨q0, q1, qP, va_K.moved (u := U) (U := U.calling g mk a) (Vm.Alike.refl U.vm) qK, qD⟩, va_recv hK hPc (ci := 1) (q0 := 0) rfl rfl, fun U hU hW => ⟨rfl, by rw [hU], by rw [hU]; exact hPc, va_K.moved hW.alike hK, hDc.weaken (fun _ _ _ _ => trivial)⟩⟩ rfl rfl hl.1 rfl (lv_room (Nat.le_of_ble_eq_true rfl)) dX2_faultOf_1 ⟨Nat.le_of_ble_eq_true rfl, Nat.le_of_ble_eq_true rfl⟩) hS (fun q _ h => hFc q h) hFc (fun u t H1 locs ht hvm hpost hB hz1 hk1 hS => ?_)
  obtain ⟨g_x_clauses_1, hf_2, hP1, hK1, hD1⟩ := hB
  rw [ht] at hP1
  obtain ⟨hP, hD⟩ := va_join (wr := [(h0, .inr (2, [.int v_x_awaited, .int v_x_askedNow, .int v_x_signNow, .int v_x_numberNow, .int v_x_digitsNow])), (pTa, .inr (8, [.int v_t_length, .ref t_bytes])), (t_bytes, .inl (cI, 100, .inl f_t_bytes)), (y_asked, .inl (cI, 160, .inl f_y_asked)), (y_signs, .inl (cI, 160, .inl f_y_signs)), (y_numbers, .inl (cI, 160, .inl f_y_numbers)), (y_paces, .inl (cI, 160, .inl f_y_paces))]) (w1 := [(pBk, .inr (1, [.ref y_clauses, .ref y_asked, .ref y_signs, .ref y_numbers, .ref y_paces])), (y_clauses, .inl (cI, 10, .inl g_x_clauses_1))]) hP hD [3, 4] [0, 1, 2, 5, 6, 7, 8] rfl rfl (by decide) (by decide) hk1 hFc hP1 hD1
  generalize H1 = H at hP hS ⊢
  have hP : va_P (dC, dI) vwCl [(h0, .inr (2, [.int v_x_awaited, .int v_x_askedNow, .int v_x_signNow, .int v_x_numberNow, .int v_x_digitsNow])), (pTa, .inr (8, [.int v_t_length, .ref t_bytes])), (t_bytes, .inl (cI, 100, .inl f_t_bytes)), (y_asked, .inl (cI, 160, .inl f_y_asked)), (y_signs, .inl (cI, 160, .inl f_y_signs)), (y_numbers, .inl (cI, 160, .inl f_y_numbers)), (y_paces, .inl (cI, 160, .inl f_y_paces)), (pBk, .inr (1, [.ref y_clauses, .ref y_asked, .ref y_signs, .ref y_numbers, .ref y_paces])), (y_clauses, .inl (cI, 10, .inl g_x_clauses_1))] H := hP
  have hD : va_D A [(h0, .inr (2, [.int v_x_awaited, .int v_x_askedNow, .int v_x_signNow, .int v_x_numberNow, .int v_x_digitsNow])), (pTa, .inr (8, [.int v_t_length, .ref t_bytes])), (t_bytes, .inl (cI, 100, .inl f_t_bytes)), (y_asked, .inl (cI, 160, .inl f_y_asked)), (y_signs, .inl (cI, 160, .inl f_y_signs)), (y_numbers, .inl (cI, 160, .inl f_y_numbers)), (y_paces, .inl (cI, 160, .inl f_y_paces)), (pBk, .inr (1, [.ref y_clauses, .ref y_asked, .ref y_signs, .ref y_numbers, .ref y_paces])), (y_clauses, .inl (cI, 10, .inl g_x_clauses_1))] := hD
  have hf_2 : zr g_x_clauses_1 10 (0) (16) := hf_2
  refine lv_aload_n hx hb dX2_faultOf_4 rfl (lv_at hl 0 rfl) ?_
  refine lv_iconst (v := 0) hx hb dX2_faultOf_5 (by decide) ?_
  refine va_put (D := (dC, dI)) (ci := 2) (v := .int 0) (ty := .int) (C := RX2) (T := TX2) (N := 5) hx hb hts hiX2 tyX2 tyX2_ok nmX2 hown hK hP hD hS 0 rfl rfl 0 (by decide) hw4 (fun _ h9 => h9) rfl (by decide +kernel) rfl rfl (Nat.le_of_ble_eq_true rfl) dX2_faultOf_6 (fun H locs hP hD hS => ?_)
  have hP : va_P (dC, dI) vwCl [(h0, .inr (2, [.int 0, .int v_x_askedNow, .int v_x_signNow, .int v_x_numberNow, .int v_x_digitsNow])), (pTa, .inr (8, [.int v_t_length, .ref t_bytes])), (t_bytes, .inl (cI, 100, .inl f_t_bytes)), (y_asked, .inl (cI, 160, .inl f_y_asked)), (y_signs, .inl (cI, 160, .inl f_y_signs)), (y_numbers, .inl (cI, 160, .inl f_y_numbers)), (y_paces, .inl (cI, 160, .inl f_y_paces)), (pBk, .inr (1, [.ref y_clauses, .ref y_asked, .ref y_signs, .ref y_numbers, .ref y_paces])), (y_clauses, .inl (cI, 10, .inl g_x_clauses_1))] H := hP
  have hD : va_D A [(h0, .inr (2, [.int 0, .int v_x_askedNow, .int v_x_signNow, .int v_x_numberNow, .int v_x_digitsNow])), (pTa, .inr (8, [.int v_t_length, .ref t_bytes])), (t_bytes, .inl (cI, 100, .inl f_t_bytes)), (y_asked, .inl (cI, 160, .inl f_y_asked)), (y_signs, .inl (cI, 160, .inl f_y_signs)), (y_numbers, .inl (cI, 160, .inl f_y_numbers)), (y_paces, .inl (cI, 160, .inl f_y_paces)), (pBk, .inr (1, [.ref y_clauses, .ref y_asked, .ref y_signs, .ref y_numbers, .ref y_paces])), (y_clauses, .inl (cI, 10, .inl g_x_clauses_1))] := hD
  refine lv_iconst (v := 0) hx hb dX2_faultOf_9 (by decide) ?_
  refine lv_istore_n (lv' := [(3, .int 0), (0, .ref h0), (1, .ref pTa), (2, .ref pBk)]) hx hb dX2_faultOf_10 rfl hl (by decide) rfl (fun ls hl => ?_)
  have L_39 : ∀ (n : Nat) (i3_L_39 : Int32) (g_y_asked_L_39 : Nat → Int32) (g_y_clauses_L_39 : Nat → Int32) (g_y_numbers_L_39 : Nat → Int32) (g_y_paces_L_39 : Nat → Int32) (g_y_signs_L_39 : Nat → Int32) (w_h0_awaited_L_39 : Int32) (w_h0_askedNow_L_39 : Int32) (w_h0_signNow_L_39 : Int32) (w_h0_numberNow_L_39 : Int32) (w_h0_digitsNow_L_39 : Int32) (H : Heap) (locs : List Loc) (ls : Array Slot), (0 ≤ i3_L_39.toInt) → (i3_L_39.toInt ≤ 100) → (zr g_y_asked_L_39 160 (0) (4)) → (zr g_y_clauses_L_39 10 (0) (16)) → (zr g_y_paces_L_39 160 (0) (9)) → (0 ≤ w_h0_awaited_L_39.toInt) → (w_h0_awaited_L_39.toInt ≤ 7) → (0 ≤ w_h0_askedNow_L_39.toInt) → (w_h0_askedNow_L_39.toInt ≤ 4) → (0 ≤ w_h0_digitsNow_L_39.toInt) → (w_h0_digitsNow_L_39.toInt ≤ 3) → (i3_L_39.toInt ≤ v_t_length_i) → (((w_h0_awaited_L_39).toInt = 4 ∧ 1 ≤ (w_h0_digitsNow_L_39).toInt ∧ AU f_t_bytes i3_L_39.toInt = 10 * (w_h0_digitsNow_L_39).toInt - 6) ∨ (¬ (w_h0_awaited_L_39).toInt = 4 ∧ AU f_t_bytes i3_L_39.toInt = (w_h0_awaited_L_39).toInt)) → (100 - i3_L_39.toInt) < (n : Int) → va_P (dC, dI) vwCl [(h0, .inr (2, [.int w_h0_awaited_L_39, .int w_h0_askedNow_L_39, .int w_h0_signNow_L_39, .int w_h0_numberNow_L_39, .int w_h0_digitsNow_L_39])), (pTa, .inr (8, [.int v_t_length, .ref t_bytes])), (t_bytes, .inl (cI, 100, .inl f_t_bytes)), (y_asked, .inl (cI, 160, .inl g_y_asked_L_39)), (y_signs, .inl (cI, 160, .inl g_y_signs_L_39)), (y_numbers, .inl (cI, 160, .inl g_y_numbers_L_39)), (y_paces, .inl (cI, 160, .inl g_y_paces_L_39)), (pBk, .inr (1, [.ref y_clauses, .ref y_asked, .ref y_signs, .ref y_numbers, .ref y_paces])), (y_clauses, .inl (cI, 10, .inl g_y_clauses_L_39))] H → va_D A [(h0, .inr (2, [.int w_h0_awaited_L_39, .int w_h0_askedNow_L_39, .int w_h0_signNow_L_39, .int w_h0_numberNow_L_39, .int w_h0_digitsNow_L_39])), (pTa, .inr (8, [.int v_t_length, .ref t_bytes])), (t_bytes, .inl (cI, 100, .inl f_t_bytes)), (y_asked, .inl (cI, 160, .inl g_y_asked_L_39)), (y_signs, .inl (cI, 160, .inl g_y_signs_L_39)), (y_numbers, .inl (cI, 160, .inl g_y_numbers_L_39)), (y_paces, .inl (cI, 160, .inl g_y_paces_L_39)), (pBk, .inr (1, [.ref y_clauses, .ref y_asked, .ref y_signs, .ref y_numbers, .ref y_paces])), (y_clauses, .inl (cI, 10, .inl g_y_clauses_L_39))] → va_S A s.heap H locs → lv_has ls 4 [(3, .int i3_L_39), (0, .ref h0), (1, .ref pTa), (2, .ref pBk)] → W p l e ((headSpec (Cond.code yX2_faultOf cX2_faultOf 4 (some .int) :: lw_good) ({ frames := 4, cells := 0, slots := 0, locals := 84 })).room) s m (([.ref h0, .ref pTa, .ref pBk] : List Value).toArray) below meth c H locs 0 0 (MQ below (va_Qi (fun (r u : Int32) => r = u) (fun u t => ∃ (w_h0_awaited : Int32) (w_h0_askedNow : Int32) (w_h0_signNow : Int32) (w_h0_numberNow : Int32) (w_h0_digitsNow : Int32) (g_y_clauses : Nat → Int32) (g_y_asked : Nat → Int32) (g_y_signs : Nat → Int32) (g_y_numbers : Nat → Int32) (g_y_paces : Nat → Int32), (u.toInt = fv f_t_bytes v_t_length_i) ∧ (-1 ≤ u.toInt ∧ u.toInt ≤ 100) ∧ (0 ≤ w_h0_awaited.toInt ∧ w_h0_awaited.toInt ≤ 7) ∧ (0 ≤ w_h0_askedNow.toInt ∧ w_h0_askedNow.toInt ≤ 4) ∧ (0 ≤ w_h0_digitsNow.toInt ∧ w_h0_digitsNow.toInt ≤ 3) ∧ (zr g_y_clauses 10 (0) (16)) ∧ (zr g_y_asked 160 (0) (4)) ∧ (zr g_y_paces 160 (0) (9)) ∧ va_P (dC, dI) vwCl [(h0, .inr (2, [.int w_h0_awaited, .int w_h0_askedNow, .int w_h0_signNow, .int w_h0_numberNow, .int w_h0_digitsNow])), (pTa, .inr (8, [.int v_t_length, .ref t_bytes])), (t_bytes, .inl (cI, 100, .inl f_t_bytes)), (pBk, .inr (1, [.ref y_clauses, .ref y_asked, .ref y_signs, .ref y_numbers, .ref y_paces])), (y_clauses, .inl (cI, 10, .inl g_y_clauses)), (y_asked, .inl (cI, 160, .inl g_y_asked)), (y_signs, .inl (cI, 160, .inl g_y_signs)), (y_numbers, .inl (cI, 160, .inl g_y_numbers)), (y_paces, .inl (cI, 160, .inl g_y_paces))] t.heap ∧ va_K (dC, dI) vwCl [(cI, .int), (cZ, .boolean)] t ∧ va_D A [(h0, .inr (2, [.int w_h0_awaited, .int w_h0_askedNow, .int w_h0_signNow, .int w_h0_numberNow, .int w_h0_digitsNow])), (pTa, .inr (8, [.int v_t_length, .ref t_bytes])), (t_bytes, .inl (cI, 100, .inl f_t_bytes)), (pBk, .inr (1, [.ref y_clauses, .ref y_asked, .ref y_signs, .ref y_numbers, .ref y_paces])), (y_clauses, .inl (cI, 10, .inl g_y_clauses)), (y_asked, .inl (cI, 160, .inl g_y_asked)), (y_signs, .inl (cI, 160, .inl g_y_signs)), (y_numbers, .inl (cI, 160, .inl g_y_numbers)), (y_paces, .inl (cI, 160, .inl g_y_paces))]) A) (([.ref h0, .ref pTa, .ref pBk] : List Value).toArray) s 0 0 A) (F0 m 11 ls []) := by
    intro n
    induction n with
    | zero =>
      intro i3_L_39 g_y_asked_L_39 g_y_clauses_L_39 g_y_numbers_L_39 g_y_paces_L_39 g_y_signs_L_39 w_h0_awaited_L_39 w_h0_askedNow_L_39 w_h0_signNow_L_39 w_h0_numberNow_L_39 w_h0_digitsNow_L_39 H locs ls hI0 hI1 hI2 hI3 hI4 hI5 hI6 hI7 hI8 hI9 hI10 hI11 hI12 hM
      exact absurd hM (by omega)
    | succ n ih =>
      intro i3_L_39 g_y_asked_L_39 g_y_clauses_L_39 g_y_numbers_L_39 g_y_paces_L_39 g_y_signs_L_39 w_h0_awaited_L_39 w_h0_askedNow_L_39 w_h0_signNow_L_39 w_h0_numberNow_L_39 w_h0_digitsNow_L_39 H locs ls hI0 hI1 hI2 hI3 hI4 hI5 hI6 hI7 hI8 hI9 hI10 hI11 hI12 hM hP hD hS hl
      have ih_40 := ih
      have hi_41 := hI0
      have hi_42 := hI1
      have hi_43 := hI2
      have hi_44 := hI3
      have hi_45 := hI4
      have hi_46 := hI5
      have hi_47 := hI6
      have hi_48 := hI7
      have hi_49 := hI8
      have hi_50 := hI9
      have hi_51 := hI10
      have hi_52 := hI11
      have hi_53 := hI12
      refine lv_iload_n hx hb dX2_faultOf_11 rfl (lv_at hl 0 rfl) ?_
      refine lv_aload_n hx hb dX2_faultOf_12 rfl (lv_at hl 2 rfl) ?_
      refine va_get (D := (dC, dI)) (ci := 8) (v := .int v_t_length) (C := RX8) (T := TX8) (N := 2) hx hb hts hiX8 hown hK hP 1 rfl rfl 0 (by decide) hw5 (fun _ h9 => h9) rfl dX2_faultOf_13 ?_
      refine lv_icmp_ge (tgt := 41) hx hb dX2_faultOf_16 (by decide) (fun c_54 => ?_) (fun c_54 => ?_)
      ·
        have c_54 : v_t_length_i ≤ (i3_L_39).toInt := zz_le v_t_length_h rfl c_54
        refine lv_aload_n hx hb dX2_faultOf_41 rfl (lv_at hl 1 rfl) ?_
        refine va_get (D := (dC, dI)) (ci := 2) (v := .int w_h0_awaited_L_39) (C := RX2) (T := TX2) (N := 5) hx hb hts hiX2 hown hK hP 0 rfl rfl 0 (by decide) hw4 (fun _ h9 => h9) rfl dX2_faultOf_42 ?_
        refine lv_if_eq (tgt := 57) hx hb dX2_faultOf_45 (by decide) (fun c_55 => ?_) (fun c_55 => ?_)
        ·
          have c_55 : (w_h0_awaited_L_39).toInt = (0:Int) := zz_eq rfl (by decide) c_55
          refine lv_iconst (v := (-1)) hx hb dX2_faultOf_57 (by decide) ?_
          refine lv_goto (tgt := 65) hx hb dX2_faultOf_58 (by decide) ?_
          have hu9 : ((-1) : Int32).toInt = (-1:Int) := (by decide)
          have hx9_w_h0_awaited : (w_h0_awaited_L_39 : Int32).toInt = (w_h0_awaited_L_39).toInt := rfl
          have hx9_w_h0_askedNow : (w_h0_askedNow_L_39 : Int32).toInt = (w_h0_askedNow_L_39).toInt := rfl
          have hx9_w_h0_signNow : (w_h0_signNow_L_39 : Int32).toInt = (w_h0_signNow_L_39).toInt := rfl
          have hx9_w_h0_numberNow : (w_h0_numberNow_L_39 : Int32).toInt = (w_h0_numberNow_L_39).toInt := rfl
          have hx9_w_h0_digitsNow : (w_h0_digitsNow_L_39 : Int32).toInt = (w_h0_digitsNow_L_39).toInt := rfl
          have hP9 := hP.sub (ws' := [(h0, .inr (2, [.int w_h0_awaited_L_39, .int w_h0_askedNow_L_39, .int w_h0_signNow_L_39, .int w_h0_numberNow_L_39, .int w_h0_digitsNow_L_39])), (pTa, .inr (8, [.int v_t_length, .ref t_bytes])), (t_bytes, .inl (cI, 100, .inl f_t_bytes)), (pBk, .inr (1, [.ref y_clauses, .ref y_asked, .ref y_signs, .ref y_numbers, .ref y_paces])), (y_clauses, .inl (cI, 10, .inl g_y_clauses_L_39)), (y_asked, .inl (cI, 160, .inl g_y_asked_L_39)), (y_signs, .inl (cI, 160, .inl g_y_signs_L_39)), (y_numbers, .inl (cI, 160, .inl g_y_numbers_L_39)), (y_paces, .inl (cI, 160, .inl g_y_paces_L_39))]) [0, 1, 2, 7, 8, 3, 4, 5, 6] rfl
          have hD9 := hD.sub (ws' := [(h0, .inr (2, [.int w_h0_awaited_L_39, .int w_h0_askedNow_L_39, .int w_h0_signNow_L_39, .int w_h0_numberNow_L_39, .int w_h0_digitsNow_L_39])), (pTa, .inr (8, [.int v_t_length, .ref t_bytes])), (t_bytes, .inl (cI, 100, .inl f_t_bytes)), (pBk, .inr (1, [.ref y_clauses, .ref y_asked, .ref y_signs, .ref y_numbers, .ref y_paces])), (y_clauses, .inl (cI, 10, .inl g_y_clauses_L_39)), (y_asked, .inl (cI, 160, .inl g_y_asked_L_39)), (y_signs, .inl (cI, 160, .inl g_y_signs_L_39)), (y_numbers, .inl (cI, 160, .inl g_y_numbers_L_39)), (y_paces, .inl (cI, 160, .inl g_y_paces_L_39))]) [0, 1, 2, 7, 8, 3, 4, 5, 6] (by decide) rfl
          have hf9_0 : ((-1) : Int32).toInt = fv f_t_bytes v_t_length_i := by have hN : AU f_t_bytes v_t_length_i = AU f_t_bytes ((i3_L_39).toInt) := congrArg (AU f_t_bytes) (show v_t_length_i = (i3_L_39).toInt by omega); rw [hu9]; exact fv_of (by omega) (by omega)
          have hf9_1 : -1 ≤ ((-1) : Int32).toInt ∧ ((-1) : Int32).toInt ≤ 100 := by omega
          have hf9_2 : 0 ≤ w_h0_awaited_L_39.toInt ∧ w_h0_awaited_L_39.toInt ≤ 7 := by omega
          have hf9_3 : 0 ≤ w_h0_askedNow_L_39.toInt ∧ w_h0_askedNow_L_39.toInt ≤ 4 := by omega
          have hf9_4 : 0 ≤ w_h0_digitsNow_L_39.toInt ∧ w_h0_digitsNow_L_39.toInt ≤ 3 := by omega
          have hf9_5 : zr g_y_clauses_L_39 10 (0) (16) := hi_44
          have hf9_6 : zr g_y_asked_L_39 160 (0) (4) := hi_43
          have hf9_7 : zr g_y_paces_L_39 160 (0) (9) := hi_45
          exact W.iret (v := (-1)) hx hb hr (fun t ht hW => ⟨⟨(-1), (-1), rfl, rfl, w_h0_awaited_L_39, w_h0_askedNow_L_39, w_h0_signNow_L_39, w_h0_numberNow_L_39, w_h0_digitsNow_L_39, g_y_clauses_L_39, g_y_asked_L_39, g_y_signs_L_39, g_y_numbers_L_39, g_y_paces_L_39, hf9_0, hf9_1, hf9_2, hf9_3, hf9_4, hf9_5, hf9_6, hf9_7, by rw [ht]; exact hP9, va_K.moved hW.alike hK, hD9⟩, hS.F ht⟩) hS.2.2 dX2_faultOf_65
        ·
          have c_55 : ¬ ((w_h0_awaited_L_39).toInt = (0:Int)) := zz_eqn rfl (by decide) c_55
          refine lv_aload_n hx hb dX2_faultOf_48 rfl (lv_at hl 1 rfl) ?_
          refine va_get (D := (dC, dI)) (ci := 2) (v := .int w_h0_awaited_L_39) (C := RX2) (T := TX2) (N := 5) hx hb hts hiX2 hown hK hP 0 rfl rfl 0 (by decide) hw4 (fun _ h9 => h9) rfl dX2_faultOf_49 ?_
          refine lv_bipush (v := 7) hx hb dX2_faultOf_52 (by decide) ?_
          refine lv_icmp_ne (tgt := 61) hx hb dX2_faultOf_54 (by decide) (fun c_56 => ?_) (fun c_56 => ?_)
          ·
            have c_56 : ¬ ((w_h0_awaited_L_39).toInt = (7:Int)) := zz_eqn rfl (by decide) c_56
            refine lv_aload_n hx hb dX2_faultOf_61 rfl (lv_at hl 2 rfl) ?_
            refine va_get (D := (dC, dI)) (ci := 8) (v := .int v_t_length) (C := RX8) (T := TX8) (N := 2) hx hb hts hiX8 hown hK hP 1 rfl rfl 0 (by decide) hw5 (fun _ h9 => h9) rfl dX2_faultOf_62 ?_
            have hu9 : (v_t_length : Int32).toInt = v_t_length_i := v_t_length_h
            have hx9_w_h0_awaited : (w_h0_awaited_L_39 : Int32).toInt = (w_h0_awaited_L_39).toInt := rfl
            have hx9_w_h0_askedNow : (w_h0_askedNow_L_39 : Int32).toInt = (w_h0_askedNow_L_39).toInt := rfl
            have hx9_w_h0_signNow : (w_h0_signNow_L_39 : Int32).toInt = (w_h0_signNow_L_39).toInt := rfl
            have hx9_w_h0_numberNow : (w_h0_numberNow_L_39 : Int32).toInt = (w_h0_numberNow_L_39).toInt := rfl
            have hx9_w_h0_digitsNow : (w_h0_digitsNow_L_39 : Int32).toInt = (w_h0_digitsNow_L_39).toInt := rfl
            have hP9 := hP.sub (ws' := [(h0, .inr (2, [.int w_h0_awaited_L_39, .int w_h0_askedNow_L_39, .int w_h0_signNow_L_39, .int w_h0_numberNow_L_39, .int w_h0_digitsNow_L_39])), (pTa, .inr (8, [.int v_t_length, .ref t_bytes])), (t_bytes, .inl (cI, 100, .inl f_t_bytes)), (pBk, .inr (1, [.ref y_clauses, .ref y_asked, .ref y_signs, .ref y_numbers, .ref y_paces])), (y_clauses, .inl (cI, 10, .inl g_y_clauses_L_39)), (y_asked, .inl (cI, 160, .inl g_y_asked_L_39)), (y_signs, .inl (cI, 160, .inl g_y_signs_L_39)), (y_numbers, .inl (cI, 160, .inl g_y_numbers_L_39)), (y_paces, .inl (cI, 160, .inl g_y_paces_L_39))]) [0, 1, 2, 7, 8, 3, 4, 5, 6] rfl
            have hD9 := hD.sub (ws' := [(h0, .inr (2, [.int w_h0_awaited_L_39, .int w_h0_askedNow_L_39, .int w_h0_signNow_L_39, .int w_h0_numberNow_L_39, .int w_h0_digitsNow_L_39])), (pTa, .inr (8, [.int v_t_length, .ref t_bytes])), (t_bytes, .inl (cI, 100, .inl f_t_bytes)), (pBk, .inr (1, [.ref y_clauses, .ref y_asked, .ref y_signs, .ref y_numbers, .ref y_paces])), (y_clauses, .inl (cI, 10, .inl g_y_clauses_L_39)), (y_asked, .inl (cI, 160, .inl g_y_asked_L_39)), (y_signs, .inl (cI, 160, .inl g_y_signs_L_39)), (y_numbers, .inl (cI, 160, .inl g_y_numbers_L_39)), (y_paces, .inl (cI, 160, .inl g_y_paces_L_39))]) [0, 1, 2, 7, 8, 3, 4, 5, 6] (by decide) rfl
            have hf9_0 : v_t_length.toInt = fv f_t_bytes v_t_length_i := by have hN : AU f_t_bytes v_t_length_i = AU f_t_bytes ((i3_L_39).toInt) := congrArg (AU f_t_bytes) (show v_t_length_i = (i3_L_39).toInt by omega); rw [hu9]; exact fv_of (by omega) (by omega)
            have hf9_1 : -1 ≤ v_t_length.toInt ∧ v_t_length.toInt ≤ 100 := by omega
            have hf9_2 : 0 ≤ w_h0_awaited_L_39.toInt ∧ w_h0_awaited_L_39.toInt ≤ 7 := by omega
            have hf9_3 : 0 ≤ w_h0_askedNow_L_39.toInt ∧ w_h0_askedNow_L_39.toInt ≤ 4 := by omega
            have hf9_4 : 0 ≤ w_h0_digitsNow_L_39.toInt ∧ w_h0_digitsNow_L_39.toInt ≤ 3 := by omega
            have hf9_5 : zr g_y_clauses_L_39 10 (0) (16) := hi_44
            have hf9_6 : zr g_y_asked_L_39 160 (0) (4) := hi_43
            have hf9_7 : zr g_y_paces_L_39 160 (0) (9) := hi_45
            exact W.iret (v := v_t_length) hx hb hr (fun t ht hW => ⟨⟨v_t_length, v_t_length, rfl, rfl, w_h0_awaited_L_39, w_h0_askedNow_L_39, w_h0_signNow_L_39, w_h0_numberNow_L_39, w_h0_digitsNow_L_39, g_y_clauses_L_39, g_y_asked_L_39, g_y_signs_L_39, g_y_numbers_L_39, g_y_paces_L_39, hf9_0, hf9_1, hf9_2, hf9_3, hf9_4, hf9_5, hf9_6, hf9_7, by rw [ht]; exact hP9, va_K.moved hW.alike hK, hD9⟩, hS.F ht⟩) hS.2.2 dX2_faultOf_65
          ·
            have c_56 : (w_h0_awaited_L_39).toInt = (7:Int) := zz_eq rfl (by decide) c_56
            refine lv_iconst (v := (-1)) hx hb dX2_faultOf_57 (by decide) ?_
            refine lv_goto (tgt := 65) hx hb dX2_faultOf_58 (by decide) ?_
            have hu9 : ((-1) : Int32).toInt = (-1:Int) := (by decide)
            have hx9_w_h0_awaited : (w_h0_awaited_L_39 : Int32).toInt = (w_h0_awaited_L_39).toInt := rfl
            have hx9_w_h0_askedNow : (w_h0_askedNow_L_39 : Int32).toInt = (w_h0_askedNow_L_39).toInt := rfl
            have hx9_w_h0_signNow : (w_h0_signNow_L_39 : Int32).toInt = (w_h0_signNow_L_39).toInt := rfl
            have hx9_w_h0_numberNow : (w_h0_numberNow_L_39 : Int32).toInt = (w_h0_numberNow_L_39).toInt := rfl
            have hx9_w_h0_digitsNow : (w_h0_digitsNow_L_39 : Int32).toInt = (w_h0_digitsNow_L_39).toInt := rfl
            have hP9 := hP.sub (ws' := [(h0, .inr (2, [.int w_h0_awaited_L_39, .int w_h0_askedNow_L_39, .int w_h0_signNow_L_39, .int w_h0_numberNow_L_39, .int w_h0_digitsNow_L_39])), (pTa, .inr (8, [.int v_t_length, .ref t_bytes])), (t_bytes, .inl (cI, 100, .inl f_t_bytes)), (pBk, .inr (1, [.ref y_clauses, .ref y_asked, .ref y_signs, .ref y_numbers, .ref y_paces])), (y_clauses, .inl (cI, 10, .inl g_y_clauses_L_39)), (y_asked, .inl (cI, 160, .inl g_y_asked_L_39)), (y_signs, .inl (cI, 160, .inl g_y_signs_L_39)), (y_numbers, .inl (cI, 160, .inl g_y_numbers_L_39)), (y_paces, .inl (cI, 160, .inl g_y_paces_L_39))]) [0, 1, 2, 7, 8, 3, 4, 5, 6] rfl
            have hD9 := hD.sub (ws' := [(h0, .inr (2, [.int w_h0_awaited_L_39, .int w_h0_askedNow_L_39, .int w_h0_signNow_L_39, .int w_h0_numberNow_L_39, .int w_h0_digitsNow_L_39])), (pTa, .inr (8, [.int v_t_length, .ref t_bytes])), (t_bytes, .inl (cI, 100, .inl f_t_bytes)), (pBk, .inr (1, [.ref y_clauses, .ref y_asked, .ref y_signs, .ref y_numbers, .ref y_paces])), (y_clauses, .inl (cI, 10, .inl g_y_clauses_L_39)), (y_asked, .inl (cI, 160, .inl g_y_asked_L_39)), (y_signs, .inl (cI, 160, .inl g_y_signs_L_39)), (y_numbers, .inl (cI, 160, .inl g_y_numbers_L_39)), (y_paces, .inl (cI, 160, .inl g_y_paces_L_39))]) [0, 1, 2, 7, 8, 3, 4, 5, 6] (by decide) rfl
            have hf9_0 : ((-1) : Int32).toInt = fv f_t_bytes v_t_length_i := by have hN : AU f_t_bytes v_t_length_i = AU f_t_bytes ((i3_L_39).toInt) := congrArg (AU f_t_bytes) (show v_t_length_i = (i3_L_39).toInt by omega); rw [hu9]; exact fv_of (by omega) (by omega)
            have hf9_1 : -1 ≤ ((-1) : Int32).toInt ∧ ((-1) : Int32).toInt ≤ 100 := by omega
            have hf9_2 : 0 ≤ w_h0_awaited_L_39.toInt ∧ w_h0_awaited_L_39.toInt ≤ 7 := by omega
            have hf9_3 : 0 ≤ w_h0_askedNow_L_39.toInt ∧ w_h0_askedNow_L_39.toInt ≤ 4 := by omega
            have hf9_4 : 0 ≤ w_h0_digitsNow_L_39.toInt ∧ w_h0_digitsNow_L_39.toInt ≤ 3 := by omega
            have hf9_5 : zr g_y_clauses_L_39 10 (0) (16) := hi_44
            have hf9_6 : zr g_y_asked_L_39 160 (0) (4) := hi_43
            have hf9_7 : zr g_y_paces_L_39 160 (0) (9) := hi_45
            exact W.iret (v := (-1)) hx hb hr (fun t ht hW => ⟨⟨(-1), (-1), rfl, rfl, w_h0_awaited_L_39, w_h0_askedNow_L_39, w_h0_signNow_L_39, w_h0_numberNow_L_39, w_h0_digitsNow_L_39, g_y_clauses_L_39, g_y_asked_L_39, g_y_signs_L_39, g_y_numbers_L_39, g_y_paces_L_39, hf9_0, hf9_1, hf9_2, hf9_3, hf9_4, hf9_5, hf9_6, hf9_7, by rw [ht]; exact hP9, va_K.moved hW.alike hK, hD9⟩, hS.F ht⟩) hS.2.2 dX2_faultOf_65
      ·
        have c_54 : ¬ (v_t_length_i ≤ (i3_L_39).toInt) := zz_len v_t_length_h rfl c_54
        refine lv_aload_n hx hb dX2_faultOf_19 rfl (lv_at hl 1 rfl) ?_
        refine lv_aload_n hx hb dX2_faultOf_20 rfl (lv_at hl 2 rfl) ?_
        refine va_get (D := (dC, dI)) (ci := 8) (v := .ref t_bytes) (C := RX8) (T := TX8) (N := 2) hx hb hts hiX8 hown hK hP 1 rfl rfl 1 (by decide) hw6 (fun _ h9 => h9) rfl dX2_faultOf_21 ?_
        refine lv_iload_n hx hb dX2_faultOf_24 rfl (lv_at hl 0 rfl) ?_
        refine va_iald hx hb hK hP 2 0 rfl rfl (zz_in (a := (i3_L_39).toInt) rfl (by omega) (by omega)) dX2_faultOf_25 ?_
        refine lv_topi (fun v_57 ev_57 => ?_)
        have kv_57 : v_57.toInt = ztb f_t_bytes ((i3_L_39).toInt) := ztb_ld ev_57 rfl
        refine lv_aload_n hx hb dX2_faultOf_26 rfl (lv_at hl 3 rfl) ?_
        have hPc := hP.sub (ws' := [(h0, .inr (2, [.int w_h0_awaited_L_39, .int w_h0_askedNow_L_39, .int w_h0_signNow_L_39, .int w_h0_numberNow_L_39, .int w_h0_digitsNow_L_39])), (pBk, .inr (1, [.ref y_clauses, .ref y_asked, .ref y_signs, .ref y_numbers, .ref y_paces])), (y_clauses, .inl (cI, 10, .inl g_y_clauses_L_39)), (y_asked, .inl (cI, 160, .inl g_y_asked_L_39)), (y_signs, .inl (cI, 160, .inl g_y_signs_L_39)), (y_numbers, .inl (cI, 160, .inl g_y_numbers_L_39)), (y_paces, .inl (cI, 160, .inl g_y_paces_L_39))]) [0, 7, 8, 3, 4, 5, 6] rfl
        have hDc := hD.sub (ws' := [(h0, .inr (2, [.int w_h0_awaited_L_39, .int w_h0_askedNow_L_39, .int w_h0_signNow_L_39, .int w_h0_numberNow_L_39, .int w_h0_digitsNow_L_39])), (pBk, .inr (1, [.ref y_clauses, .ref y_asked, .ref y_signs, .ref y_numbers, .ref y_paces])), (y_clauses, .inl (cI, 10, .inl g_y_clauses_L_39)), (y_asked, .inl (cI, 160, .inl g_y_asked_L_39)), (y_signs, .inl (cI, 160, .inl g_y_signs_L_39)), (y_numbers, .inl (cI, 160, .inl g_y_numbers_L_39)), (y_paces, .inl (cI, 160, .inl g_y_paces_L_39))]) [0, 7, 8, 3, 4, 5, 6] (by decide) rfl
        have hFc := va_free (wc := [(h0, .inr (2, [.int w_h0_awaited_L_39, .int w_h0_askedNow_L_39, .int w_h0_signNow_L_39, .int w_h0_numberNow_L_39, .int w_h0_digitsNow_L_39])), (pBk, .inr (1, [.ref y_clauses, .ref y_asked, .ref y_signs, .ref y_numbers, .ref y_paces])), (y_clauses, .inl (cI, 10, .inl g_y_clauses_L_39)), (y_asked, .inl (cI, 160, .inl g_y_asked_L_39)), (y_signs, .inl (cI, 160, .inl g_y_signs_L_39)), (y_numbers, .inl (cI, 160, .inl g_y_numbers_L_39)), (y_paces, .inl (cI, 160, .inl g_y_paces_L_39))]) hD hS hA [0, 7, 8, 3, 4, 5, 6] rfl
        refine va_calli (va_runV (As := [.int v_57, .ref pBk]) (rest := []) ⟨hx, hb, hml, hown, hts⟩ (c_X2_goesOn l dC dI cI cZ (H).size h0 v_57 ((v_57).toInt) rfl pBk w_h0_awaited_L_39 ((w_h0_awaited_L_39).toInt) rfl (by omega) w_h0_askedNow_L_39 ((w_h0_askedNow_L_39).toInt) rfl (by omega) w_h0_signNow_L_39 ((w_h0_signNow_L_39).toInt) rfl w_h0_numberNow_L_39 ((w_h0_numberNow_L_39).toInt) rfl w_h0_digitsNow_L_39 ((w_h0_digitsNow_L_39).toInt) rfl (by omega) y_clauses y_asked y_signs y_numbers y_paces g_y_clauses_L_39 hi_44 g_y_asked_L_39 hi_43 g_y_signs_L_39 g_y_numbers_L_39 g_y_paces_L_39 hi_45) ⟨callB_of 2 hts (zz_good zw_457) rfl rfl rfl hw7 hw8 (by decide +kernel) ⟨Nat.le_of_ble_eq_true rfl, Nat.le_of_ble_eq_true rfl⟩, hw9, hw10⟩ ⟨fun a U g mk q => by obtain ⟨q0, q1, qP, qK, qD⟩ := q; exact ⟨q0, q1, qP, va_K.moved (u := U) (U := U.calling g mk a) (Vm.Alike.refl U.vm) qK, qD⟩, va_recv hK hPc (ci := 2) (q0 := 0) rfl rfl, fun U hU hW => ⟨rfl, by rw [hU], by rw [hU]; exact hPc, va_K.moved hW.alike hK, hDc.weaken (fun _ _ _ _ => trivial)⟩⟩ rfl rfl hl.1 rfl (lv_room (Nat.le_of_ble_eq_true rfl)) dX2_faultOf_27 ⟨Nat.le_of_ble_eq_true rfl, Nat.le_of_ble_eq_true rfl⟩) hS (fun q _ h => hFc q h) hFc (fun r_58 u t H1 locs ht hvm hpost hB hz1 hk1 hS => ?_)
        subst hpost
        obtain ⟨w_h0_awaited_59, w_h0_askedNow_60, w_h0_signNow_61, w_h0_numberNow_62, w_h0_digitsNow_63, g_y_clauses_64, g_y_asked_65, g_y_signs_66, g_y_numbers_67, g_y_paces_68, hf_69, hf_70, hf_71, hf_72, hf_73, hf_74, hf_75, hf_76, hP1, hK1, hD1⟩ := hB
        rw [ht] at hP1
        obtain ⟨hP, hD⟩ := va_join (wr := [(pTa, .inr (8, [.int v_t_length, .ref t_bytes])), (t_bytes, .inl (cI, 100, .inl f_t_bytes))]) (w1 := [(h0, .inr (2, [.int w_h0_awaited_59, .int w_h0_askedNow_60, .int w_h0_signNow_61, .int w_h0_numberNow_62, .int w_h0_digitsNow_63])), (pBk, .inr (1, [.ref y_clauses, .ref y_asked, .ref y_signs, .ref y_numbers, .ref y_paces])), (y_clauses, .inl (cI, 10, .inl g_y_clauses_64)), (y_asked, .inl (cI, 160, .inl g_y_asked_65)), (y_signs, .inl (cI, 160, .inl g_y_signs_66)), (y_numbers, .inl (cI, 160, .inl g_y_numbers_67)), (y_paces, .inl (cI, 160, .inl g_y_paces_68))]) hP hD [0, 7, 8, 3, 4, 5, 6] [1, 2] rfl rfl (by decide) (by decide) hk1 hFc hP1 hD1
        generalize H1 = H at hP hS ⊢
        have hP : va_P (dC, dI) vwCl [(pTa, .inr (8, [.int v_t_length, .ref t_bytes])), (t_bytes, .inl (cI, 100, .inl f_t_bytes)), (h0, .inr (2, [.int w_h0_awaited_59, .int w_h0_askedNow_60, .int w_h0_signNow_61, .int w_h0_numberNow_62, .int w_h0_digitsNow_63])), (pBk, .inr (1, [.ref y_clauses, .ref y_asked, .ref y_signs, .ref y_numbers, .ref y_paces])), (y_clauses, .inl (cI, 10, .inl g_y_clauses_64)), (y_asked, .inl (cI, 160, .inl g_y_asked_65)), (y_signs, .inl (cI, 160, .inl g_y_signs_66)), (y_numbers, .inl (cI, 160, .inl g_y_numbers_67)), (y_paces, .inl (cI, 160, .inl g_y_paces_68))] H := hP
        have hD : va_D A [(pTa, .inr (8, [.int v_t_length, .ref t_bytes])), (t_bytes, .inl (cI, 100, .inl f_t_bytes)), (h0, .inr (2, [.int w_h0_awaited_59, .int w_h0_askedNow_60, .int w_h0_signNow_61, .int w_h0_numberNow_62, .int w_h0_digitsNow_63])), (pBk, .inr (1, [.ref y_clauses, .ref y_asked, .ref y_signs, .ref y_numbers, .ref y_paces])), (y_clauses, .inl (cI, 10, .inl g_y_clauses_64)), (y_asked, .inl (cI, 160, .inl g_y_asked_65)), (y_signs, .inl (cI, 160, .inl g_y_signs_66)), (y_numbers, .inl (cI, 160, .inl g_y_numbers_67)), (y_paces, .inl (cI, 160, .inl g_y_paces_68))] := hD
        have hf_69 : zGO ((w_h0_awaited_L_39).toInt) ((w_h0_digitsNow_L_39).toInt) ((v_57).toInt) r_58.toInt w_h0_awaited_59.toInt w_h0_digitsNow_63.toInt := hf_69
        have hf_70 : 0 ≤ r_58.toInt ∧ r_58.toInt ≤ 1 := hf_70
        have hf_71 : 0 ≤ w_h0_awaited_59.toInt ∧ w_h0_awaited_59.toInt ≤ 7 := hf_71
        have hf_72 : 0 ≤ w_h0_askedNow_60.toInt ∧ w_h0_askedNow_60.toInt ≤ 4 := hf_72
        have hf_73 : 0 ≤ w_h0_digitsNow_63.toInt ∧ w_h0_digitsNow_63.toInt ≤ 3 := hf_73
        have hf_74 : zr g_y_clauses_64 10 (0) (16) := hf_74
        have hf_75 : zr g_y_asked_65 160 (0) (4) := hf_75
        have hf_76 : zr g_y_paces_68 160 (0) (9) := hf_76
        have hgo := go_ok (q := AU f_t_bytes ((i3_L_39).toInt)) hf_69 (by omega) (by omega)
        rw [kv_57, ← au_step f_t_bytes (by omega)] at hgo
        refine lv_if_ne (tgt := 35) hx hb dX2_faultOf_30 (by decide) (fun c_77 => ?_) (fun c_77 => ?_)
        ·
          have c_77 : ¬ ((r_58).toInt = (0:Int)) := zz_eqn rfl (by decide) c_77
          obtain ⟨v_78, ev_78⟩ : ∃ y : Int32, y = i3_L_39 + 1 := ⟨_, rfl⟩
          have hv_78 : v_78.toInt = ((i3_L_39).toInt + (1:Int)) := by rw [ev_78]; exact zz_addI rfl (by decide) (by omega) (by omega)
          refine lv_iinc (v := v_78) (lv' := [(3, .int v_78), (0, .ref h0), (1, .ref pTa), (2, .ref pBk)]) hx hb dX2_faultOf_35 hl (k := 0) rfl (by rw [ev_78]; rfl) (by decide) rfl (fun ls hl => ?_)
          refine lv_goto (tgt := 11) hx hb dX2_faultOf_38 (by decide) ?_
          have hb_79_i3_L_39 : (v_78 : Int32).toInt = ((i3_L_39).toInt + (1:Int)) := hv_78
          have hb_79_w_h0_awaited_L_39 : (w_h0_awaited_59 : Int32).toInt = (w_h0_awaited_59).toInt := rfl
          have hb_79_w_h0_askedNow_L_39 : (w_h0_askedNow_60 : Int32).toInt = (w_h0_askedNow_60).toInt := rfl
          have hb_79_w_h0_signNow_L_39 : (w_h0_signNow_61 : Int32).toInt = (w_h0_signNow_61).toInt := rfl
          have hb_79_w_h0_numberNow_L_39 : (w_h0_numberNow_62 : Int32).toInt = (w_h0_numberNow_62).toInt := rfl
          have hb_79_w_h0_digitsNow_L_39 : (w_h0_digitsNow_63 : Int32).toInt = (w_h0_digitsNow_63).toInt := rfl
          exact ih_40 v_78 g_y_asked_65 g_y_clauses_64 g_y_numbers_67 g_y_paces_68 g_y_signs_66 w_h0_awaited_59 w_h0_askedNow_60 w_h0_signNow_61 w_h0_numberNow_62 w_h0_digitsNow_63 H locs ls (by omega) (by omega) hf_75 hf_74 hf_76 (by omega) (by omega) (by omega) (by omega) (by omega) (by omega) (by omega) (by rw [hb_79_i3_L_39]; omega) (by omega) (hP.sub [2, 0, 1, 5, 6, 7, 8, 3, 4] rfl) (hD.sub [2, 0, 1, 5, 6, 7, 8, 3, 4] (by decide) rfl) hS (lv_sub hl [0, 1, 2, 3] rfl)
        ·
          have c_77 : (r_58).toInt = (0:Int) := zz_eq rfl (by decide) c_77
          refine lv_iload_n hx hb dX2_faultOf_33 rfl (lv_at hl 0 rfl) ?_
          have hu9 : (i3_L_39 : Int32).toInt = (i3_L_39).toInt := rfl
          have hx9_w_h0_awaited : (w_h0_awaited_59 : Int32).toInt = (w_h0_awaited_59).toInt := rfl
          have hx9_w_h0_askedNow : (w_h0_askedNow_60 : Int32).toInt = (w_h0_askedNow_60).toInt := rfl
          have hx9_w_h0_signNow : (w_h0_signNow_61 : Int32).toInt = (w_h0_signNow_61).toInt := rfl
          have hx9_w_h0_numberNow : (w_h0_numberNow_62 : Int32).toInt = (w_h0_numberNow_62).toInt := rfl
          have hx9_w_h0_digitsNow : (w_h0_digitsNow_63 : Int32).toInt = (w_h0_digitsNow_63).toInt := rfl
          have hP9 := hP.sub (ws' := [(h0, .inr (2, [.int w_h0_awaited_59, .int w_h0_askedNow_60, .int w_h0_signNow_61, .int w_h0_numberNow_62, .int w_h0_digitsNow_63])), (pTa, .inr (8, [.int v_t_length, .ref t_bytes])), (t_bytes, .inl (cI, 100, .inl f_t_bytes)), (pBk, .inr (1, [.ref y_clauses, .ref y_asked, .ref y_signs, .ref y_numbers, .ref y_paces])), (y_clauses, .inl (cI, 10, .inl g_y_clauses_64)), (y_asked, .inl (cI, 160, .inl g_y_asked_65)), (y_signs, .inl (cI, 160, .inl g_y_signs_66)), (y_numbers, .inl (cI, 160, .inl g_y_numbers_67)), (y_paces, .inl (cI, 160, .inl g_y_paces_68))]) [2, 0, 1, 3, 4, 5, 6, 7, 8] rfl
          have hD9 := hD.sub (ws' := [(h0, .inr (2, [.int w_h0_awaited_59, .int w_h0_askedNow_60, .int w_h0_signNow_61, .int w_h0_numberNow_62, .int w_h0_digitsNow_63])), (pTa, .inr (8, [.int v_t_length, .ref t_bytes])), (t_bytes, .inl (cI, 100, .inl f_t_bytes)), (pBk, .inr (1, [.ref y_clauses, .ref y_asked, .ref y_signs, .ref y_numbers, .ref y_paces])), (y_clauses, .inl (cI, 10, .inl g_y_clauses_64)), (y_asked, .inl (cI, 160, .inl g_y_asked_65)), (y_signs, .inl (cI, 160, .inl g_y_signs_66)), (y_numbers, .inl (cI, 160, .inl g_y_numbers_67)), (y_paces, .inl (cI, 160, .inl g_y_paces_68))]) [2, 0, 1, 3, 4, 5, 6, 7, 8] (by decide) rfl
          have hf9_0 : i3_L_39.toInt = fv f_t_bytes v_t_length_i := by rw [hu9]; exact fv_of (by omega) (by omega)
          have hf9_1 : -1 ≤ i3_L_39.toInt ∧ i3_L_39.toInt ≤ 100 := by omega
          have hf9_2 : 0 ≤ w_h0_awaited_59.toInt ∧ w_h0_awaited_59.toInt ≤ 7 := by omega
          have hf9_3 : 0 ≤ w_h0_askedNow_60.toInt ∧ w_h0_askedNow_60.toInt ≤ 4 := by omega
          have hf9_4 : 0 ≤ w_h0_digitsNow_63.toInt ∧ w_h0_digitsNow_63.toInt ≤ 3 := by omega
          have hf9_5 : zr g_y_clauses_64 10 (0) (16) := hf_74
          have hf9_6 : zr g_y_asked_65 160 (0) (4) := hf_75
          have hf9_7 : zr g_y_paces_68 160 (0) (9) := hf_76
          exact W.iret (v := i3_L_39) hx hb hr (fun t ht hW => ⟨⟨i3_L_39, i3_L_39, rfl, rfl, w_h0_awaited_59, w_h0_askedNow_60, w_h0_signNow_61, w_h0_numberNow_62, w_h0_digitsNow_63, g_y_clauses_64, g_y_asked_65, g_y_signs_66, g_y_numbers_67, g_y_paces_68, hf9_0, hf9_1, hf9_2, hf9_3, hf9_4, hf9_5, hf9_6, hf9_7, by rw [ht]; exact hP9, va_K.moved hW.alike hK, hD9⟩, hS.F ht⟩) hS.2.2 dX2_faultOf_34
  have hb_80_i3_L_39 : (0 : Int32).toInt = (0:Int) := (by decide)
  have hb_80_w_h0_awaited_L_39 : (0 : Int32).toInt = (0:Int) := (by decide)
  have hb_80_w_h0_askedNow_L_39 : (v_x_askedNow : Int32).toInt = v_x_askedNow_i := v_x_askedNow_h
  have hb_80_w_h0_signNow_L_39 : (v_x_signNow : Int32).toInt = v_x_signNow_i := v_x_signNow_h
  have hb_80_w_h0_numberNow_L_39 : (v_x_numberNow : Int32).toInt = v_x_numberNow_i := v_x_numberNow_h
  have hb_80_w_h0_digitsNow_L_39 : (v_x_digitsNow : Int32).toInt = v_x_digitsNow_i := v_x_digitsNow_h
  exact L_39 1000 0 f_y_asked g_x_clauses_1 f_y_numbers f_y_paces f_y_signs 0 v_x_askedNow v_x_signNow v_x_numberNow v_x_digitsNow H locs ls (by omega) (by omega) R_y_asked hf_2 R_y_paces (by omega) (by omega) (by omega) (by omega) (by omega) (by omega) (by omega) (by rw [hb_80_i3_L_39]; have q := AU_zero f_t_bytes; omega) (by omega) (hP.sub [0, 1, 2, 3, 4, 5, 6, 7, 8] rfl) (hD.sub [0, 1, 2, 3, 4, 5, 6, 7, 8] (by decide) rfl) hS (lv_sub hl [0, 1, 2, 3] rfl)
