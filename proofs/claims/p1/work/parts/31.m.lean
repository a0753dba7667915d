set_option maxHeartbeats 4000000 in
set_option maxRecDepth 100000 in
theorem c_X10_byteOf (l : Launch) (dC : Nat → ClassId) (dI : Nat → Nat → Nat) (cI cZ : ClassId) (sz : Nat) (pA : Int32) (pA_i : Int) (pA_h : pA.toInt = pA_i) (pB : Int32) (pB_i : Int) (pB_h : pB.toInt = pB_i) (pC : Int32) (pC_i : Int) (pC_h : pC.toInt = pC_i) (pD : Int32) (pD_i : Int) (pD_h : pD.toInt = pD_i) (pE : Int32) (pE_i : Int) (pE_h : pE.toInt = pE_i) (pK : Int32) (pK_i : Int) (pK_h : pK.toInt = pK_i) (hh0 : 0 ≤ pK_i) (hh1 : pK_i ≤ 19) : Met l yX10_byteOf (Cond.code yX10_byteOf cX10_byteOf 7 (some .int) :: lw_good) ({ frames := 0, cells := 0, slots := 0, locals := 0 }) (va_Pc [.int pA, .int pB, .int pC, .int pD, .int pE, .int pK] (fun U => U.heap.size = sz ∧ va_P (dC, dI) vwCl [] U.heap ∧ va_K (dC, dI) vwCl [(cI, .int), (cZ, .boolean)] U ∧ va_D (fun _ => True) [])) (va_Qi (fun (r u : Int32) => r = u) (fun u t => (u.toInt = ((bz20 pA pB pC pD pE pK_i.toNat : Nat) : Int)) ∧ va_P (dC, dI) vwCl [] t.heap ∧ va_K (dC, dI) vwCl [(cI, .int), (cZ, .boolean)] t ∧ va_D (va_A [] sz) []) (va_A [] sz)) 0 0 (va_A [] sz) := by
  refine Met.ofW (cc := cX10_byteOf) (maxL := 7) (ret := (some .int)) (by decide) rfl ?_
  intro p e s m args below meth c s₁ B hml hv
  obtain ⟨rfl, hsz, hP, hK, hD0⟩ := hv
  have hx := B.exec
  have hb := B.bytes
  have hr := B.returns
  have hts := atoms_spec (ws := Cond.code yX10_byteOf cX10_byteOf 7 (some .int) :: lw_good) B.pre
  have hown : s.vm.findClass RX10 = some m.cls := findClass_of_methodNamed B.named
  have hlocks := B.notSynchronized
  subst hsz
  have hD := hD0.self (sz := s.heap.size)
  generalize hAe : va_A [] s.heap.size = A at hD ⊢
  have hA : ∀ q : Nat, s.heap.size ≤ q → A q := fun q h => by rw [← hAe]; exact Or.inr h
  have hS : va_S A s.heap s.heap [] := va_S.rf
  have hP : va_P (dC, dI) vwCl [] s.heap := hP
  have hl := lv_entry ([.int pA, .int pB, .int pC, .int pD, .int pE, .int pK]) (n := 7) (Nat.le_of_ble_eq_true rfl)
  rw [lg_entry_eq]
  generalize (lg_sl ([.int pA, .int pB, .int pC, .int pD, .int pE, .int pK]) ++ List.replicate (7 - (lg_sl ([.int pA, .int pB, .int pC, .int pD, .int pE, .int pK])).length) Slot.unset).toArray = ls at hl ⊢
  have hl : lv_has ls 7 [(0, .int pA), (1, .int pB), (2, .int pC), (3, .int pD), (4, .int pE), (5, .int pK)] := hl
  refine lv_iload hx hb dX10_byteOf_0 (lv_at hl 5 rfl) ?_
  refine lv_iconst (v := 4) hx hb dX10_byteOf_2 (by decide) ?_
  refine lv_icmp_ge (tgt := 10) hx hb dX10_byteOf_3 (by decide) (fun c_1 => ?_) (fun c_1 => ?_)
  ·
    have c_1 : (4:Int) ≤ pK_i := zz_le (by decide) pK_h c_1
    refine lv_iload hx hb dX10_byteOf_10 (lv_at hl 5 rfl) ?_
    refine lv_bipush (v := 8) hx hb dX10_byteOf_12 (by decide) ?_
    refine lv_icmp_ge (tgt := 21) hx hb dX10_byteOf_14 (by decide) (fun c_2 => ?_) (fun c_2 => ?_)
    ·
      have c_2 : (8:Int) ≤ pK_i := zz_le (by decide) pK_h c_2
      refine lv_iload hx hb dX10_byteOf_21 (lv_at hl 5 rfl) ?_
      refine lv_bipush (v := 12) hx hb dX10_byteOf_23 (by decide) ?_
      refine lv_icmp_ge (tgt := 32) hx hb dX10_byteOf_25 (by decide) (fun c_3 => ?_) (fun c_3 => ?_)
      ·
        have c_3 : (12:Int) ≤ pK_i := zz_le (by decide) pK_h c_3
        refine lv_iload hx hb dX10_byteOf_32 (lv_at hl 5 rfl) ?_
        refine lv_bipush (v := 16) hx hb dX10_byteOf_34 (by decide) ?_
        refine lv_icmp_ge (tgt := 43) hx hb dX10_byteOf_36 (by decide) (fun c_4 => ?_) (fun c_4 => ?_)
        ·
          have c_4 : (16:Int) ≤ pK_i := zz_le (by decide) pK_h c_4
          refine lv_iload hx hb dX10_byteOf_43 (lv_at hl 4 rfl) ?_
          refine lv_istore (lv' := [(6, .int pE), (0, .int pA), (1, .int pB), (2, .int pC), (3, .int pD), (4, .int pE), (5, .int pK)]) hx hb dX10_byteOf_45 hl (by decide) rfl (fun ls hl => ?_)
          refine lv_iload hx hb dX10_byteOf_47 (lv_at hl 0 rfl) ?_
          refine lv_bipush (v := 24) hx hb dX10_byteOf_49 (by decide) ?_
          refine lv_bipush (v := 8) hx hb dX10_byteOf_51 (by decide) ?_
          refine lv_iload hx hb dX10_byteOf_53 (lv_at hl 6 rfl) ?_
          refine lv_iconst (v := 4) hx hb dX10_byteOf_55 (by decide) ?_
          refine lv_irem hx hb dX10_byteOf_56 (by decide) ?_
          refine lv_topi (fun v_5 ev_5 => ?_)
          have hv_5 : v_5.toInt = (pK_i % (4:Int)) := by rw [ev_5]; exact zz_remN pK_h (by decide) (by omega) (by omega)
          refine lv_imul hx hb dX10_byteOf_57 ?_
          refine lv_topi (fun v_6 ev_6 => ?_)
          have hv_6 : v_6.toInt = ((8:Int) * (pK_i % (4:Int))) := by rw [ev_6]; exact zz_mulI (by decide) hv_5 (by omega) (by omega)
          refine lv_isub hx hb dX10_byteOf_58 ?_
          refine lv_topi (fun v_7 ev_7 => ?_)
          have hv_7 : v_7.toInt = ((24:Int) - ((8:Int) * (pK_i % (4:Int)))) := by rw [ev_7]; exact zz_subI (by decide) hv_6 (by omega) (by omega)
          refine lv_ishr hx hb dX10_byteOf_59 ?_
          refine lv_sipush (v := 255) hx hb dX10_byteOf_60 (by decide) ?_
          refine lv_iand hx hb dX10_byteOf_63 ?_
          have hP9 := hP.sub (ws' := []) [] rfl
          have hD9 := hD.sub (ws' := []) [] (by decide) rfl
          refine W.widen (k := 0) (n := 0) (Nat.le_of_ble_eq_true rfl) (Nat.le_of_ble_eq_true rfl) ?_
          have hu9 : ((pE >>> (v_7 &&& 31)) &&& 255 : Int32).toInt = ((pE >>> (v_7 &&& 31)) &&& 255).toInt := rfl
          have hf9_0 : ((pE >>> (v_7 &&& 31)) &&& 255).toInt = ((bz20 pA pB pC pD pE pK_i.toNat : Nat) : Int) := by rw [bz20, if_neg (by omega), if_neg (by omega), if_neg (by omega), if_neg (by omega), show pK_i.toNat % 4 = (pK_i % 4).toNat by omega]; exact zz_byteS pE v_7 (by omega) (by omega) hv_7
          exact W.iret (v := (pE >>> (v_7 &&& 31)) &&& 255) hx hb hr (fun t ht hW => ⟨⟨(pE >>> (v_7 &&& 31)) &&& 255, (pE >>> (v_7 &&& 31)) &&& 255, rfl, rfl, hf9_0, by rw [ht]; exact hP9, va_K.moved hW.alike hK, hD9⟩, hS.F ht⟩) hS.2.2 dX10_byteOf_64
        ·
          have c_4 : ¬ ((16:Int) ≤ pK_i) := zz_len (by decide) pK_h c_4
          refine lv_iload_n hx hb dX10_byteOf_39 rfl (lv_at hl 3 rfl) ?_
          refine lv_goto (tgt := 45) hx hb dX10_byteOf_40 (by decide) ?_
          refine lv_istore (lv' := [(6, .int pD), (0, .int pA), (1, .int pB), (2, .int pC), (3, .int pD), (4, .int pE), (5, .int pK)]) hx hb dX10_byteOf_45 hl (by decide) rfl (fun ls hl => ?_)
          refine lv_iload hx hb dX10_byteOf_47 (lv_at hl 0 rfl) ?_
          refine lv_bipush (v := 24) hx hb dX10_byteOf_49 (by decide) ?_
          refine lv_bipush (v := 8) hx hb dX10_byteOf_51 (by decide) ?_
          refine lv_iload hx hb dX10_byteOf_53 (lv_at hl 6 rfl) ?_
          refine lv_iconst (v := 4) hx hb dX10_byteOf_55 (by decide) ?_
          refine lv_irem hx hb dX10_byteOf_56 (by decide) ?_
          refine lv_topi (fun v_8 ev_8 => ?_)
          have hv_8 : v_8.toInt = (pK_i % (4:Int)) := by rw [ev_8]; exact zz_remN pK_h (by decide) (by omega) (by omega)
          refine lv_imul hx hb dX10_byteOf_57 ?_
          refine lv_topi (fun v_9 ev_9 => ?_)
          have hv_9 : v_9.toInt = ((8:Int) * (pK_i % (4:Int))) := by rw [ev_9]; exact zz_mulI (by decide) hv_8 (by omega) (by omega)
          refine lv_isub hx hb dX10_byteOf_58 ?_
          refine lv_topi (fun v_10 ev_10 => ?_)
          have hv_10 : v_10.toInt = ((24:Int) - ((8:Int) * (pK_i % (4:Int)))) := by rw [ev_10]; exact zz_subI (by decide) hv_9 (by omega) (by omega)
          refine lv_ishr hx hb dX10_byteOf_59 ?_
          refine lv_sipush (v := 255) hx hb dX10_byteOf_60 (by decide) ?_
          refine lv_iand hx hb dX10_byteOf_63 ?_
          have hP9 := hP.sub (ws' := []) [] rfl
          have hD9 := hD.sub (ws' := []) [] (by decide) rfl
          refine W.widen (k := 0) (n := 0) (Nat.le_of_ble_eq_true rfl) (Nat.le_of_ble_eq_true rfl) ?_
          have hu9 : ((pD >>> (v_10 &&& 31)) &&& 255 : Int32).toInt = ((pD >>> (v_10 &&& 31)) &&& 255).toInt := rfl
          have hf9_0 : ((pD >>> (v_10 &&& 31)) &&& 255).toInt = ((bz20 pA pB pC pD pE pK_i.toNat : Nat) : Int) := by rw [bz20, if_neg (by omega), if_neg (by omega), if_neg (by omega), if_pos (by omega), show pK_i.toNat % 4 = (pK_i % 4).toNat by omega]; exact zz_byteS pD v_10 (by omega) (by omega) hv_10
          exact W.iret (v := (pD >>> (v_10 &&& 31)) &&& 255) hx hb hr (fun t ht hW => ⟨⟨(pD >>> (v_10 &&& 31)) &&& 255, (pD >>> (v_10 &&& 31)) &&& 255, rfl, rfl, hf9_0, by rw [ht]; exact hP9, va_K.moved hW.alike hK, hD9⟩, hS.F ht⟩) hS.2.2 dX10_byteOf_64
      ·
        have c_3 : ¬ ((12:Int) ≤ pK_i) := zz_len (by decide) pK_h c_3
        refine lv_iload_n hx hb dX10_byteOf_28 rfl (lv_at hl 2 rfl) ?_
        refine lv_goto (tgt := 45) hx hb dX10_byteOf_29 (by decide) ?_
        refine lv_istore (lv' := [(6, .int pC), (0, .int pA), (1, .int pB), (2, .int pC), (3, .int pD), (4, .int pE), (5, .int pK)]) hx hb dX10_byteOf_45 hl (by decide) rfl (fun ls hl => ?_)
        refine lv_iload hx hb dX10_byteOf_47 (lv_at hl 0 rfl) ?_
        refine lv_bipush (v := 24) hx hb dX10_byteOf_49 (by decide) ?_
        refine lv_bipush (v := 8) hx hb dX10_byteOf_51 (by decide) ?_
        refine lv_iload hx hb dX10_byteOf_53 (lv_at hl 6 rfl) ?_
        refine lv_iconst (v := 4) hx hb dX10_byteOf_55 (by decide) ?_
        refine lv_irem hx hb dX10_byteOf_56 (by decide) ?_
        refine lv_topi (fun v_11 ev_11 => ?_)
        have hv_11 : v_11.toInt = (pK_i % (4:Int)) := by rw [ev_11]; exact zz_remN pK_h (by decide) (by omega) (by omega)
        refine lv_imul hx hb dX10_byteOf_57 ?_
        refine lv_topi (fun v_12 ev_12 => ?_)
        have hv_12 : v_12.toInt = ((8:Int) * (pK_i % (4:Int))) := by rw [ev_12]; exact zz_mulI (by decide) hv_11 (by omega) (by omega)
        refine lv_isub hx hb dX10_byteOf_58 ?_
        refine lv_topi (fun v_13 ev_13 => ?_)
        have hv_13 : v_13.toInt = ((24:Int) - ((8:Int) * (pK_i % (4:Int)))) := by rw [ev_13]; exact zz_subI (by decide) hv_12 (by omega) (by omega)
        refine lv_ishr hx hb dX10_byteOf_59 ?_
        refine lv_sipush (v := 255) hx hb dX10_byteOf_60 (by decide) ?_
        refine lv_iand hx hb dX10_byteOf_63 ?_
        have hP9 := hP.sub (ws' := []) [] rfl
        have hD9 := hD.sub (ws' := []) [] (by decide) rfl
        refine W.widen (k := 0) (n := 0) (Nat.le_of_ble_eq_true rfl) (Nat.le_of_ble_eq_true rfl) ?_
        have hu9 : ((pC >>> (v_13 &&& 31)) &&& 255 : Int32).toInt = ((pC >>> (v_13 &&& 31)) &&& 255).toInt := rfl
        have hf9_0 : ((pC >>> (v_13 &&& 31)) &&& 255).toInt = ((bz20 pA pB pC pD pE pK_i.toNat : Nat) : Int) := by rw [bz20, if_neg (by omega), if_neg (by omega), if_pos (by omega), show pK_i.toNat % 4 = (pK_i % 4).toNat by omega]; exact zz_byteS pC v_13 (by omega) (by omega) hv_13
        exact W.iret (v := (pC >>> (v_13 &&& 31)) &&& 255) hx hb hr (fun t ht hW => ⟨⟨(pC >>> (v_13 &&& 31)) &&& 255, (pC >>> (v_13 &&& 31)) &&& 255, rfl, rfl, hf9_0, by rw [ht]; exact hP9, va_K.moved hW.alike hK, hD9⟩, hS.F ht⟩) hS.2.2 dX10_byteOf_64
    ·
      have c_2 : ¬ ((8:Int) ≤ pK_i) := zz_len (by decide) pK_h c_2
      refine lv_iload_n hx hb dX10_byteOf_17 rfl (lv_at hl 1 rfl) ?_
      refine lv_goto (tgt := 45) hx hb dX10_byteOf_18 (by decide) ?_
      refine lv_istore (lv' := [(6, .int pB), (0, .int pA), (1, .int pB), (2, .int pC), (3, .int pD), (4, .int pE), (5, .int pK)]) hx hb dX10_byteOf_45 hl (by decide) rfl (fun ls hl => ?_)
      refine lv_iload hx hb dX10_byteOf_47 (lv_at hl 0 rfl) ?_
      refine lv_bipush (v := 24) hx hb dX10_byteOf_49 (by decide) ?_
      refine lv_bipush (v := 8) hx hb dX10_byteOf_51 (by decide) ?_
      refine lv_iload hx hb dX10_byteOf_53 (lv_at hl 6 rfl) ?_
      refine lv_iconst (v := 4) hx hb dX10_byteOf_55 (by decide) ?_
      refine lv_irem hx hb dX10_byteOf_56 (by decide) ?_
      refine lv_topi (fun v_14 ev_14 => ?_)
      have hv_14 : v_14.toInt = (pK_i % (4:Int)) := by rw [ev_14]; exact zz_remN pK_h (by decide) (by omega) (by omega)
      refine lv_imul hx hb dX10_byteOf_57 ?_
      refine lv_topi (fun v_15 ev_15 => ?_)
      have hv_15 : v_15.toInt = ((8:Int) * (pK_i % (4:Int))) := by rw [ev_15]; exact zz_mulI (by decide) hv_14 (by omega) (by omega)
      refine lv_isub hx hb dX10_byteOf_58 ?_
      refine lv_topi (fun v_16 ev_16 => ?_)
      have hv_16 : v_16.toInt = ((24:Int) - ((8:Int) * (pK_i % (4:Int)))) := by rw [ev_16]; exact zz_subI (by decide) hv_15 (by omega) (by omega)
      refine lv_ishr hx hb dX10_byteOf_59 ?_
      refine lv_sipush (v := 255) hx hb dX10_byteOf_60 (by decide) ?_
      refine lv_iand hx hb dX10_byteOf_63 ?_
      have hP9 := hP.sub (ws' := []) [] rfl
      have hD9 := hD.sub (ws' := []) [] (by decide) rfl
      refine W.widen (k := 0) (n := 0) (Nat.le_of_ble_eq_true rfl) (Nat.le_of_ble_eq_true rfl) ?_
      have hu9 : ((pB >>> (v_16 &&& 31)) &&& 255 : Int32).toInt = ((pB >>> (v_16 &&& 31)) &&& 255).toInt := rfl
      have hf9_0 : ((pB >>> (v_16 &&& 31)) &&& 255).toInt = ((bz20 pA pB pC pD pE pK_i.toNat : Nat) : Int) := by rw [bz20, if_neg (by omega), if_pos (by omega), show pK_i.toNat % 4 = (pK_i % 4).toNat by omega]; exact zz_byteS pB v_16 (by omega) (by omega) hv_16
      exact W.iret (v := (pB >>> (v_16 &&& 31)) &&& 255) hx hb hr (fun t ht hW => ⟨⟨(pB >>> (v_16 &&& 31)) &&& 255, (pB >>> (v_16 &&& 31)) &&& 255, rfl, rfl, hf9_0, by rw [ht]; exact hP9, va_K.moved hW.alike hK, hD9⟩, hS.F ht⟩) hS.2.2 dX10_byteOf_64
  ·
    have c_1 : ¬ ((4:Int) ≤ pK_i) := zz_len (by decide) pK_h c_1
    refine lv_iload_n hx hb dX10_byteOf_6 rfl (lv_at hl 0 rfl) ?_
    refine lv_goto (tgt := 45) hx hb dX10_byteOf_7 (by decide) ?_
    refine lv_istore (lv' := [(6, .int pA), (0, .int pA), (1, .int pB), (2, .int pC), (3, .int pD), (4, .int pE), (5, .int pK)]) hx hb dX10_byteOf_45 hl (by decide) rfl (fun ls hl => ?_)
    refine lv_iload hx hb dX10_byteOf_47 (lv_at hl 0 rfl) ?_
    refine lv_bipush (v := 24) hx hb dX10_byteOf_49 (by decide) ?_
    refine lv_bipush (v := 8) hx hb dX10_byteOf_51 (by decide) ?_
    refine lv_iload hx hb dX10_byteOf_53 (lv_at hl 6 rfl) ?_
    refine lv_iconst (v := 4) hx hb dX10_byteOf_55 (by decide) ?_
    refine lv_irem hx hb dX10_byteOf_56 (by decide) ?_
    refine lv_topi (fun v_17 ev_17 => ?_)
    have hv_17 : v_17.toInt = (pK_i % (4:Int)) := by rw [ev_17]; exact zz_remN pK_h (by decide) (by omega) (by omega)
    refine lv_imul hx hb dX10_byteOf_57 ?_
    refine lv_topi (fun v_18 ev_18 => ?_)
    have hv_18 : v_18.toInt = ((8:Int) * (pK_i % (4:Int))) := by rw [ev_18]; exact zz_mulI (by decide) hv_17 (by omega) (by omega)
    refine lv_isub hx hb dX10_byteOf_58 ?_
    refine lv_topi (fun v_19 ev_19 => ?_)
    have hv_19 : v_19.toInt = ((24:Int) - ((8:Int) * (pK_i % (4:Int)))) := by rw [ev_19]; exact zz_subI (by decide) hv_18 (by omega) (by omega)
    refine lv_ishr hx hb dX10_byteOf_59 ?_
    refine lv_sipush (v := 255) hx hb dX10_byteOf_60 (by decide) ?_
    refine lv_iand hx hb dX10_byteOf_63 ?_
    have hP9 := hP.sub (ws' := []) [] rfl
    have hD9 := hD.sub (ws' := []) [] (by decide) rfl
    refine W.widen (k := 0) (n := 0) (Nat.le_of_ble_eq_true rfl) (Nat.le_of_ble_eq_true rfl) ?_
    have hu9 : ((pA >>> (v_19 &&& 31)) &&& 255 : Int32).toInt = ((pA >>> (v_19 &&& 31)) &&& 255).toInt := rfl
    have hf9_0 : ((pA >>> (v_19 &&& 31)) &&& 255).toInt = ((bz20 pA pB pC pD pE pK_i.toNat : Nat) : Int) := by rw [bz20, if_pos (by omega), show pK_i.toNat % 4 = (pK_i % 4).toNat by omega]; exact zz_byteS pA v_19 (by omega) (by omega) hv_19
    exact W.iret (v := (pA >>> (v_19 &&& 31)) &&& 255) hx hb hr (fun t ht hW => ⟨⟨(pA >>> (v_19 &&& 31)) &&& 255, (pA >>> (v_19 &&& 31)) &&& 255, rfl, rfl, hf9_0, by rw [ht]; exact hP9, va_K.moved hW.alike hK, hD9⟩, hS.F ht⟩) hS.2.2 dX10_byteOf_64

set_option maxHeartbeats 4000000 in
set_option maxRecDepth 100000 in
theorem c_X10_feed (l : Launch) (dC : Nat → ClassId) (dI : Nat → Nat → Nat) (cI cZ : ClassId) (sz : Nat) (h0 : Nat) (m_teamOf : Nat) (m_steady : Nat) (m_full : Nat) (m_climb : Nat) (m_rises : Nat) (m_winds : Nat) (m_primeAt : Nat) (m_tape : Nat) (m_clauses : Nat) (m_letter : Nat) (m_sign : Nat) (m_bar : Nat) (m_pace : Nat) (m_rides : Nat) (m_isOut : Nat) (m_metre : Nat) (m_charge : Nat) (m_held : Nat) (m_seconds : Nat) (m_heldOften : Nat) (m_work : Nat) (m_primeSeconds : Nat) (m_row : Nat) (m_groupSize : Nat) (m_place : Nat) (m_stood : Nat) (m_history : Nat) (m_groupHistory : Nat) (m_didRide : Nat) (m_toldRow : Nat) (m_passedBy : Nat) (m_total : Nat) (m_points : Nat) (m_used : Nat) (pA : Int32) (pA_i : Int) (pA_h : pA.toInt = pA_i) (pB : Int32) (pB_i : Int) (pB_h : pB.toInt = pB_i) (pC : Int32) (pC_i : Int) (pC_h : pC.toInt = pC_i) (pD : Int32) (pD_i : Int) (pD_h : pD.toInt = pD_i) (pE : Int32) (pE_i : Int) (pE_h : pE.toInt = pE_i) : Met l yX10_feed (Cond.code yX10_feed cX10_feed 9 (some .int) :: lw_good) ({ frames := 1, cells := 0, slots := 0, locals := 26 }) (va_Pc [.ref h0, .int pA, .int pB, .int pC, .int pD, .int pE] (fun U => U.heap.size = sz ∧ va_P (dC, dI) vwCl [(h0, .inr (10, [.int 0, .int 1, .int 0, .int (-1), .int 0, .int 0, .int 0, .int 20, .ref m_teamOf, .ref m_steady, .ref m_full, .ref m_climb, .ref m_rises, .ref m_winds, .ref m_primeAt, .ref m_tape, .int 0, .int 0, .int 0, .ref m_clauses, .ref m_letter, .ref m_sign, .ref m_bar, .ref m_pace, .ref m_rides, .ref m_isOut, .ref m_metre, .ref m_charge, .ref m_held, .ref m_seconds, .ref m_heldOften, .ref m_work, .ref m_primeSeconds, .int 0, .long 0, .ref m_row, .int 0, .ref m_groupSize, .ref m_place, .ref m_stood, .ref m_history, .ref m_groupHistory, .int 0, .int 0, .int 0, .int 0, .ref m_didRide, .ref m_toldRow, .ref m_passedBy, .ref m_total, .ref m_points, .ref m_used])), (m_tape, .inl (cI, 100, .inl (fun _ => 0)))] U.heap ∧ va_K (dC, dI) vwCl [(cI, .int), (cZ, .boolean)] U ∧ va_D (fun _ => True) [(h0, .inr (10, [.int 0, .int 1, .int 0, .int (-1), .int 0, .int 0, .int 0, .int 20, .ref m_teamOf, .ref m_steady, .ref m_full, .ref m_climb, .ref m_rises, .ref m_winds, .ref m_primeAt, .ref m_tape, .int 0, .int 0, .int 0, .ref m_clauses, .ref m_letter, .ref m_sign, .ref m_bar, .ref m_pace, .ref m_rides, .ref m_isOut, .ref m_metre, .ref m_charge, .ref m_held, .ref m_seconds, .ref m_heldOften, .ref m_work, .ref m_primeSeconds, .int 0, .long 0, .ref m_row, .int 0, .ref m_groupSize, .ref m_place, .ref m_stood, .ref m_history, .ref m_groupHistory, .int 0, .int 0, .int 0, .int 0, .ref m_didRide, .ref m_toldRow, .ref m_passedBy, .ref m_total, .ref m_points, .ref m_used])), (m_tape, .inl (cI, 100, .inl (fun _ => 0)))])) (va_Qi (fun (r u : Int32) => r = u) (fun u t => (u.toInt = ((bc pA 4 : Nat) : Int) + ((bc pB 4 : Nat) : Int) + ((bc pC 4 : Nat) : Int) + ((bc pD 4 : Nat) : Int) + ((bc pE 4 : Nat) : Int)) ∧ va_P (dC, dI) vwCl [] t.heap ∧ va_K (dC, dI) vwCl [(cI, .int), (cZ, .boolean)] t ∧ va_D (va_A [(h0, .inr (10, [.int 0, .int 1, .int 0, .int (-1), .int 0, .int 0, .int 0, .int 20, .ref m_teamOf, .ref m_steady, .ref m_full, .ref m_climb, .ref m_rises, .ref m_winds, .ref m_primeAt, .ref m_tape, .int 0, .int 0, .int 0, .ref m_clauses, .ref m_letter, .ref m_sign, .ref m_bar, .ref m_pace, .ref m_rides, .ref m_isOut, .ref m_metre, .ref m_charge, .ref m_held, .ref m_seconds, .ref m_heldOften, .ref m_work, .ref m_primeSeconds, .int 0, .long 0, .ref m_row, .int 0, .ref m_groupSize, .ref m_place, .ref m_stood, .ref m_history, .ref m_groupHistory, .int 0, .int 0, .int 0, .int 0, .ref m_didRide, .ref m_toldRow, .ref m_passedBy, .ref m_total, .ref m_points, .ref m_used])), (m_tape, .inl (cI, 100, .inl (fun _ => 0)))] sz) []) (va_A [(h0, .inr (10, [.int 0, .int 1, .int 0, .int (-1), .int 0, .int 0, .int 0, .int 20, .ref m_teamOf, .ref m_steady, .ref m_full, .ref m_climb, .ref m_rises, .ref m_winds, .ref m_primeAt, .ref m_tape, .int 0, .int 0, .int 0, .ref m_clauses, .ref m_letter, .ref m_sign, .ref m_bar, .ref m_pace, .ref m_rides, .ref m_isOut, .ref m_metre, .ref m_charge, .ref m_held, .ref m_seconds, .ref m_heldOften, .ref m_work, .ref m_primeSeconds, .int 0, .long 0, .ref m_row, .int 0, .ref m_groupSize, .ref m_place, .ref m_stood, .ref m_history, .ref m_groupHistory, .int 0, .int 0, .int 0, .int 0, .ref m_didRide, .ref m_toldRow, .ref m_passedBy, .ref m_total, .ref m_points, .ref m_used])), (m_tape, .inl (cI, 100, .inl (fun _ => 0)))] sz)) 0 0 (va_A [(h0, .inr (10, [.int 0, .int 1, .int 0, .int (-1), .int 0, .int 0, .int 0, .int 20, .ref m_teamOf, .ref m_steady, .ref m_full, .ref m_climb, .ref m_rises, .ref m_winds, .ref m_primeAt, .ref m_tape, .int 0, .int 0, .int 0, .ref m_clauses, .ref m_letter, .ref m_sign, .ref m_bar, .ref m_pace, .ref m_rides, .ref m_isOut, .ref m_metre, .ref m_charge, .ref m_held, .ref m_seconds, .ref m_heldOften, .ref m_work, .ref m_primeSeconds, .int 0, .long 0, .ref m_row, .int 0, .ref m_groupSize, .ref m_place, .ref m_stood, .ref m_history, .ref m_groupHistory, .int 0, .int 0, .int 0, .int 0, .ref m_didRide, .ref m_toldRow, .ref m_passedBy, .ref m_total, .ref m_points, .ref m_used])), (m_tape, .inl (cI, 100, .inl (fun _ => 0)))] sz) := by
  refine Met.ofW (cc := cX10_feed) (maxL := 9) (ret := (some .int)) (by decide) rfl ?_
  intro p e s m args below meth c s₁ B hml hv
  obtain ⟨rfl, hsz, hP, hK, hD0⟩ := hv
  have hx := B.exec
  have hb := B.bytes
  have hr := B.returns
  have hts := atoms_spec (ws := Cond.code yX10_feed cX10_feed 9 (some .int) :: lw_good) B.pre
  have hown : s.vm.findClass RX10 = some m.cls := findClass_of_methodNamed B.named
  have hlocks := B.notSynchronized
  have hiX10 : ∀ w ∈ wsX100, w ∈ (Cond.code yX10_feed cX10_feed 9 (some .int) :: lw_good) := fun w h => List.mem_cons_of_mem _ (zi_X10 w h)
  have hw0 := hts (.fieldLink RX10 147 "BunchRaceModel" "size" "I") (List.mem_cons_of_mem _ zw_753)
  have hw1 := hts (.initialized RX10) (List.mem_cons_of_mem _ zw_58)
  have hw2 := hts (.methodLink RX10 143 yX10_byteOf) (List.mem_cons_of_mem _ zw_925)
  have hw3 := hts (.static yX10_byteOf) (List.mem_cons_of_mem _ zw_926)
  have hw4 := hts (.fieldLink RX10 41 "BunchRaceModel" "tape" "[I") (List.mem_cons_of_mem _ zw_752)
  subst hsz
  have hD := hD0.self (sz := s.heap.size)
  generalize hAe : va_A [(h0, .inr (10, [.int 0, .int 1, .int 0, .int (-1), .int 0, .int 0, .int 0, .int 20, .ref m_teamOf, .ref m_steady, .ref m_full, .ref m_climb, .ref m_rises, .ref m_winds, .ref m_primeAt, .ref m_tape, .int 0, .int 0, .int 0, .ref m_clauses, .ref m_letter, .ref m_sign, .ref m_bar, .ref m_pace, .ref m_rides, .ref m_isOut, .ref m_metre, .ref m_charge, .ref m_held, .ref m_seconds, .ref m_heldOften, .ref m_work, .ref m_primeSeconds, .int 0, .long 0, .ref m_row, .int 0, .ref m_groupSize, .ref m_place, .ref m_stood, .ref m_history, .ref m_groupHistory, .int 0, .int 0, .int 0, .int 0, .ref m_didRide, .ref m_toldRow, .ref m_passedBy, .ref m_total, .ref m_points, .ref m_used])), (m_tape, .inl (cI, 100, .inl (fun _ => 0)))] s.heap.size = A at hD ⊢
  have hA : ∀ q : Nat, s.heap.size ≤ q → A q := fun q h => by rw [← hAe]; exact Or.inr h
  have hS : va_S A s.heap s.heap [] := va_S.rf
  have hP : va_P (dC, dI) vwCl [(h0, .inr (10, [.int 0, .int 1, .int 0, .int (-1), .int 0, .int 0, .int 0, .int 20, .ref m_teamOf, .ref m_steady, .ref m_full, .ref m_climb, .ref m_rises, .ref m_winds, .ref m_primeAt, .ref m_tape, .int 0, .int 0, .int 0, .ref m_clauses, .ref m_letter, .ref m_sign, .ref m_bar, .ref m_pace, .ref m_rides, .ref m_isOut, .ref m_metre, .ref m_charge, .ref m_held, .ref m_seconds, .ref m_heldOften, .ref m_work, .ref m_primeSeconds, .int 0, .long 0, .ref m_row, .int 0, .ref m_groupSize, .ref m_place, .ref m_stood, .ref m_history, .ref m_groupHistory, .int 0, .int 0, .int 0, .int 0, .ref m_didRide, .ref m_toldRow, .ref m_passedBy, .ref m_total, .ref m_points, .ref m_used])), (m_tape, .inl (cI, 100, .inl (fun _ => 0)))] s.heap := hP
  have hl := lv_entry ([.ref h0, .int pA, .int pB, .int pC, .int pD, .int pE]) (n := 9) (Nat.le_of_ble_eq_true rfl)
  rw [lg_entry_eq]
  generalize (lg_sl ([.ref h0, .int pA, .int pB, .int pC, .int pD, .int pE]) ++ List.replicate (9 - (lg_sl ([.ref h0, .int pA, .int pB, .int pC, .int pD, .int pE])).length) Slot.unset).toArray = ls at hl ⊢
  have hl : lv_has ls 9 [(0, .ref h0), (1, .int pA), (2, .int pB), (3, .int pC), (4, .int pD), (5, .int pE)] := hl
  refine lv_iconst (v := 0) hx hb dX10_feed_0 (by decide) ?_
  refine lv_istore (lv' := [(6, .int 0), (0, .ref h0), (1, .int pA), (2, .int pB), (3, .int pC), (4, .int pD), (5, .int pE)]) hx hb dX10_feed_1 hl (by decide) rfl (fun ls hl => ?_)
  refine lv_iconst (v := 0) hx hb dX10_feed_3 (by decide) ?_
  refine lv_istore (lv' := [(7, .int 0), (6, .int 0), (0, .ref h0), (1, .int pA), (2, .int pB), (3, .int pC), (4, .int pD), (5, .int pE)]) hx hb dX10_feed_4 hl (by decide) rfl (fun ls hl => ?_)
  have L_1 : ∀ (n : Nat) (n0 : Int32) (i : Int32) (H : Heap) (locs : List Loc) (ls : Array Slot), (0 ≤ i.toInt) → (i.toInt ≤ 20) → (n0.toInt = ((bc20 pA pB pC pD pE i.toInt.toNat : Nat) : Int)) → (20 - i.toInt) < (n : Int) → va_P (dC, dI) vwCl [(h0, .inr (10, [.int 0, .int 1, .int 0, .int (-1), .int 0, .int 0, .int 0, .int 20, .ref m_teamOf, .ref m_steady, .ref m_full, .ref m_climb, .ref m_rises, .ref m_winds, .ref m_primeAt, .ref m_tape, .int 0, .int 0, .int 0, .ref m_clauses, .ref m_letter, .ref m_sign, .ref m_bar, .ref m_pace, .ref m_rides, .ref m_isOut, .ref m_metre, .ref m_charge, .ref m_held, .ref m_seconds, .ref m_heldOften, .ref m_work, .ref m_primeSeconds, .int 0, .long 0, .ref m_row, .int 0, .ref m_groupSize, .ref m_place, .ref m_stood, .ref m_history, .ref m_groupHistory, .int 0, .int 0, .int 0, .int 0, .ref m_didRide, .ref m_toldRow, .ref m_passedBy, .ref m_total, .ref m_points, .ref m_used])), (m_tape, .inl (cI, 100, .inl (fun _ => 0)))] H → va_D A [(h0, .inr (10, [.int 0, .int 1, .int 0, .int (-1), .int 0, .int 0, .int 0, .int 20, .ref m_teamOf, .ref m_steady, .ref m_full, .ref m_climb, .ref m_rises, .ref m_winds, .ref m_primeAt, .ref m_tape, .int 0, .int 0, .int 0, .ref m_clauses, .ref m_letter, .ref m_sign, .ref m_bar, .ref m_pace, .ref m_rides, .ref m_isOut, .ref m_metre, .ref m_charge, .ref m_held, .ref m_seconds, .ref m_heldOften, .ref m_work, .ref m_primeSeconds, .int 0, .long 0, .ref m_row, .int 0, .ref m_groupSize, .ref m_place, .ref m_stood, .ref m_history, .ref m_groupHistory, .int 0, .int 0, .int 0, .int 0, .ref m_didRide, .ref m_toldRow, .ref m_passedBy, .ref m_total, .ref m_points, .ref m_used])), (m_tape, .inl (cI, 100, .inl (fun _ => 0)))] → va_S A s.heap H locs → lv_has ls 9 [(7, .int i), (6, .int n0), (0, .ref h0), (1, .int pA), (2, .int pB), (3, .int pC), (4, .int pD), (5, .int pE)] → W p l e ((headSpec (Cond.code yX10_feed cX10_feed 9 (some .int) :: lw_good) ({ frames := 1, cells := 0, slots := 0, locals := 26 })).room) s m (([.ref h0, .int pA, .int pB, .int pC, .int pD, .int pE] : List Value).toArray) below meth c H locs 0 0 (MQ below (va_Qi (fun (r u : Int32) => r = u) (fun u t => (u.toInt = ((bc pA 4 : Nat) : Int) + ((bc pB 4 : Nat) : Int) + ((bc pC 4 : Nat) : Int) + ((bc pD 4 : Nat) : Int) + ((bc pE 4 : Nat) : Int)) ∧ va_P (dC, dI) vwCl [] t.heap ∧ va_K (dC, dI) vwCl [(cI, .int), (cZ, .boolean)] t ∧ va_D A []) A) (([.ref h0, .int pA, .int pB, .int pC, .int pD, .int pE] : List Value).toArray) s 0 0 A) (F0 m 6 ls []) := by
    intro n
    induction n with
    | zero =>
      intro n0 i H locs ls hI0 hI1 hI2 hM
      exact absurd hM (by omega)
    | succ n ih =>
      intro n0 i H locs ls hI0 hI1 hI2 hM hP hD hS hl
      have ih_2 := ih
      have hst := bc20_step pA pB pC pD pE hI0
      have hbl := bc20_le pA pB pC pD pE i.toInt.toNat
      refine lv_iload hx hb dX10_feed_6 (lv_at hl 0 rfl) ?_
      refine lv_bipush (v := 20) hx hb dX10_feed_8 (by decide) ?_
      refine lv_icmp_ge (tgt := 44) hx hb dX10_feed_10 (by decide) (fun c_3 => ?_) (fun c_3 => ?_)
      ·
        have c_3 : (20:Int) ≤ (i).toInt := zz_le (by decide) rfl c_3
        refine lv_aload_n hx hb dX10_feed_44 rfl (lv_at hl 2 rfl) ?_
        refine va_get (D := (dC, dI)) (ci := 10) (v := .int 0) (C := RX10) (T := TX10) (N := 52) hx hb hts hiX10 hown hK hP 0 rfl rfl 16 (by decide) hw0 (fun _ h9 => h9) rfl dX10_feed_45 ?_
        refine lv_iload hx hb dX10_feed_48 (lv_at hl 1 rfl) ?_
        refine lv_iadd hx hb dX10_feed_50 ?_
        refine lv_topi (fun v_4 ev_4 => ?_)
        have hv_4 : v_4.toInt = ((0:Int) + (n0).toInt) := by rw [ev_4]; exact zz_addI (by decide) rfl (by omega) (by omega)
        refine lv_bipush (v := 100) hx hb dX10_feed_51 (by decide) ?_
        refine lv_icmp_le (tgt := 58) hx hb dX10_feed_53 (by decide) (fun c_5 => ?_) (fun c_5 => ?_)
        ·
          have c_5 : ((0:Int) + (n0).toInt) ≤ (100:Int) := zz_le hv_4 (by decide) c_5
          refine lv_iconst (v := 0) hx hb dX10_feed_58 (by decide) ?_
          refine lv_istore (lv' := [(7, .int 0), (6, .int n0), (0, .ref h0), (1, .int pA), (2, .int pB), (3, .int pC), (4, .int pD), (5, .int pE)]) hx hb dX10_feed_59 hl (by decide) rfl (fun ls hl => ?_)
          have L_6 : ∀ (n : Nat) (j : Int32) (n1 : Int32) (f : Nat → Int32) (H : Heap) (locs : List Loc) (ls : Array Slot), (0 ≤ j.toInt) → (j.toInt ≤ 20) → (n1.toInt = ((bc20 pA pB pC pD pE j.toInt.toNat : Nat) : Int)) → (20 - j.toInt) < (n : Int) → va_P (dC, dI) vwCl [(h0, .inr (10, [.int 0, .int 1, .int 0, .int (-1), .int 0, .int 0, .int 0, .int 20, .ref m_teamOf, .ref m_steady, .ref m_full, .ref m_climb, .ref m_rises, .ref m_winds, .ref m_primeAt, .ref m_tape, .int n1, .int 0, .int 0, .ref m_clauses, .ref m_letter, .ref m_sign, .ref m_bar, .ref m_pace, .ref m_rides, .ref m_isOut, .ref m_metre, .ref m_charge, .ref m_held, .ref m_seconds, .ref m_heldOften, .ref m_work, .ref m_primeSeconds, .int 0, .long 0, .ref m_row, .int 0, .ref m_groupSize, .ref m_place, .ref m_stood, .ref m_history, .ref m_groupHistory, .int 0, .int 0, .int 0, .int 0, .ref m_didRide, .ref m_toldRow, .ref m_passedBy, .ref m_total, .ref m_points, .ref m_used])), (m_tape, .inl (cI, 100, .inl f))] H → va_D A [(h0, .inr (10, [.int 0, .int 1, .int 0, .int (-1), .int 0, .int 0, .int 0, .int 20, .ref m_teamOf, .ref m_steady, .ref m_full, .ref m_climb, .ref m_rises, .ref m_winds, .ref m_primeAt, .ref m_tape, .int n1, .int 0, .int 0, .ref m_clauses, .ref m_letter, .ref m_sign, .ref m_bar, .ref m_pace, .ref m_rides, .ref m_isOut, .ref m_metre, .ref m_charge, .ref m_held, .ref m_seconds, .ref m_heldOften, .ref m_work, .ref m_primeSeconds, .int 0, .long 0, .ref m_row, .int 0, .ref m_groupSize, .ref m_place, .ref m_stood, .ref m_history, .ref m_groupHistory, .int 0, .int 0, .int 0, .int 0, .ref m_didRide, .ref m_toldRow, .ref m_passedBy, .ref m_total, .ref m_points, .ref m_used])), (m_tape, .inl (cI, 100, .inl f))] → va_S A s.heap H locs → lv_has ls 9 [(7, .int j), (6, .int n0), (0, .ref h0), (1, .int pA), (2, .int pB), (3, .int pC), (4, .int pD), (5, .int pE)] → W p l e ((headSpec (Cond.code yX10_feed cX10_feed 9 (some .int) :: lw_good) ({ frames := 1, cells := 0, slots := 0, locals := 26 })).room) s m (([.ref h0, .int pA, .int pB, .int pC, .int pD, .int pE] : List Value).toArray) below meth c H locs 0 0 (MQ below (va_Qi (fun (r u : Int32) => r = u) (fun u t => (u.toInt = ((bc pA 4 : Nat) : Int) + ((bc pB 4 : Nat) : Int) + ((bc pC 4 : Nat) : Int) + ((bc pD 4 : Nat) : Int) + ((bc pE 4 : Nat) : Int)) ∧ va_P (dC, dI) vwCl [] t.heap ∧ va_K (dC, dI) vwCl [(cI, .int), (cZ, .boolean)] t ∧ va_D A []) A) (([.ref h0, .int pA, .int pB, .int pC, .int pD, .int pE] : List Value).toArray) s 0 0 A) (F0 m 61 ls []) := by
            intro n
            induction n with
            | zero =>
              intro j n1 f H locs ls hI0 hI1 hI2 hM
              exact absurd hM (by omega)
            | succ n ih =>
              intro j n1 f H locs ls hI0 hI1 hI2 hM hP hD hS hl
              have ih_7 := ih
              have hst := bc20_step pA pB pC pD pE hI0
              have hbl := bc20_le pA pB pC pD pE j.toInt.toNat
              refine lv_iload hx hb dX10_feed_61 (lv_at hl 0 rfl) ?_
              refine lv_bipush (v := 20) hx hb dX10_feed_63 (by decide) ?_
              refine lv_icmp_ge (tgt := 114) hx hb dX10_feed_65 (by decide) (fun c_8 => ?_) (fun c_8 => ?_)
              ·
                have c_8 : (20:Int) ≤ (j).toInt := zz_le (by decide) rfl c_8
                refine lv_aload_n hx hb dX10_feed_114 rfl (lv_at hl 2 rfl) ?_
                refine va_get (D := (dC, dI)) (ci := 10) (v := .int n1) (C := RX10) (T := TX10) (N := 52) hx hb hts hiX10 hown hK hP 0 rfl rfl 16 (by decide) hw0 (fun _ h9 => h9) rfl dX10_feed_115 ?_
                have hP9 := hP.sub (ws' := []) [] rfl
                have hD9 := hD.sub (ws' := []) [] (by decide) rfl
                refine W.widen (k := 0) (n := 0) (Nat.le_of_ble_eq_true rfl) (Nat.le_of_ble_eq_true rfl) ?_
                have hu9 : (n1 : Int32).toInt = (n1).toInt := rfl
                have hf9_0 : n1.toInt = ((bc pA 4 : Nat) : Int) + ((bc pB 4 : Nat) : Int) + ((bc pC 4 : Nat) : Int) + ((bc pD 4 : Nat) : Int) + ((bc pE 4 : Nat) : Int) := by have e4 : j.toInt.toNat = 20 := (by omega); rw [e4, bc20_sum] at hI2; omega
                exact W.iret (v := n1) hx hb hr (fun t ht hW => ⟨⟨n1, n1, rfl, rfl, hf9_0, by rw [ht]; exact hP9, va_K.moved hW.alike hK, hD9⟩, hS.F ht⟩) hS.2.2 dX10_feed_118
              ·
                have c_8 : ¬ ((20:Int) ≤ (j).toInt) := zz_len (by decide) rfl c_8
                refine lv_iload_n hx hb dX10_feed_68 rfl (lv_at hl 3 rfl) ?_
                refine lv_iload_n hx hb dX10_feed_69 rfl (lv_at hl 4 rfl) ?_
                refine lv_iload_n hx hb dX10_feed_70 rfl (lv_at hl 5 rfl) ?_
                refine lv_iload hx hb dX10_feed_71 (lv_at hl 6 rfl) ?_
                refine lv_iload hx hb dX10_feed_73 (lv_at hl 7 rfl) ?_
                refine lv_iload hx hb dX10_feed_75 (lv_at hl 0 rfl) ?_
                have hPc := hP.sub (ws' := []) [] rfl
                have hDc := hD.sub (ws' := []) [] (by decide) rfl
                have hFc := va_free (wc := []) hD hS hA [] rfl
                refine va_calli (va_runS (As := [.int pA, .int pB, .int pC, .int pD, .int pE, .int j]) (rest := []) ⟨hx, hb, hml, hown, hts⟩ (c_X10_byteOf l dC dI cI cZ (H).size pA pA_i pA_h pB pB_i pB_h pC pC_i pC_h pD pD_i pD_h pE pE_i pE_h j ((j).toInt) rfl (by omega) (by omega)) ⟨callB_of 6 hts (zz_good zw_927) rfl rfl rfl hw1 hw2 (by decide +kernel) ⟨Nat.le_of_ble_eq_true rfl, Nat.le_of_ble_eq_true rfl⟩, hw3⟩ ⟨fun a U g mk q => by obtain ⟨q0, q1, qP, qK, qD⟩ := q; exact ⟨q0, q1, qP, va_K.moved (u := U) (U := U.calling g mk a) (Vm.Alike.refl U.vm) qK, qD⟩, fun U hU hW => ⟨rfl, by rw [hU], by rw [hU]; exact hPc, va_K.moved hW.alike hK, hDc.weaken (fun _ _ _ _ => trivial)⟩⟩ rfl rfl hl.1 rfl (lv_room (Nat.le_of_ble_eq_true rfl)) dX10_feed_77 ⟨Nat.le_of_ble_eq_true rfl, Nat.le_of_ble_eq_true rfl⟩) hS (fun q _ h => hFc q h) hFc (fun r_9 u t H1 locs ht hvm hpost hB hz1 hk1 hS => ?_)
                subst hpost
                obtain ⟨hf_10, hP1, hK1, hD1⟩ := hB
                rw [ht] at hP1
                obtain ⟨hP, hD⟩ := va_join (wr := [(h0, .inr (10, [.int 0, .int 1, .int 0, .int (-1), .int 0, .int 0, .int 0, .int 20, .ref m_teamOf, .ref m_steady, .ref m_full, .ref m_climb, .ref m_rises, .ref m_winds, .ref m_primeAt, .ref m_tape, .int n1, .int 0, .int 0, .ref m_clauses, .ref m_letter, .ref m_sign, .ref m_bar, .ref m_pace, .ref m_rides, .ref m_isOut, .ref m_metre, .ref m_charge, .ref m_held, .ref m_seconds, .ref m_heldOften, .ref m_work, .ref m_primeSeconds, .int 0, .long 0, .ref m_row, .int 0, .ref m_groupSize, .ref m_place, .ref m_stood, .ref m_history, .ref m_groupHistory, .int 0, .int 0, .int 0, .int 0, .ref m_didRide, .ref m_toldRow, .ref m_passedBy, .ref m_total, .ref m_points, .ref m_used])), (m_tape, .inl (cI, 100, .inl f))]) (w1 := []) hP hD [] [0, 1] rfl rfl (by decide) (by decide) hk1 hFc hP1 hD1
                generalize H1 = H at hP hS ⊢
                have hP : va_P (dC, dI) vwCl [(h0, .inr (10, [.int 0, .int 1, .int 0, .int (-1), .int 0, .int 0, .int 0, .int 20, .ref m_teamOf, .ref m_steady, .ref m_full, .ref m_climb, .ref m_rises, .ref m_winds, .ref m_primeAt, .ref m_tape, .int n1, .int 0, .int 0, .ref m_clauses, .ref m_letter, .ref m_sign, .ref m_bar, .ref m_pace, .ref m_rides, .ref m_isOut, .ref m_metre, .ref m_charge, .ref m_held, .ref m_seconds, .ref m_heldOften, .ref m_work, .ref m_primeSeconds, .int 0, .long 0, .ref m_row, .int 0, .ref m_groupSize, .ref m_place, .ref m_stood, .ref m_history, .ref m_groupHistory, .int 0, .int 0, .int 0, .int 0, .ref m_didRide, .ref m_toldRow, .ref m_passedBy, .ref m_total, .ref m_points, .ref m_used])), (m_tape, .inl (cI, 100, .inl f))] H := hP
                have hD : va_D A [(h0, .inr (10, [.int 0, .int 1, .int 0, .int (-1), .int 0, .int 0, .int 0, .int 20, .ref m_teamOf, .ref m_steady, .ref m_full, .ref m_climb, .ref m_rises, .ref m_winds, .ref m_primeAt, .ref m_tape, .int n1, .int 0, .int 0, .ref m_clauses, .ref m_letter, .ref m_sign, .ref m_bar, .ref m_pace, .ref m_rides, .ref m_isOut, .ref m_metre, .ref m_charge, .ref m_held, .ref m_seconds, .ref m_heldOften, .ref m_work, .ref m_primeSeconds, .int 0, .long 0, .ref m_row, .int 0, .ref m_groupSize, .ref m_place, .ref m_stood, .ref m_history, .ref m_groupHistory, .int 0, .int 0, .int 0, .int 0, .ref m_didRide, .ref m_toldRow, .ref m_passedBy, .ref m_total, .ref m_points, .ref m_used])), (m_tape, .inl (cI, 100, .inl f))] := hD
                have hf_10 : r_9.toInt = ((bz20 pA pB pC pD pE ((j).toInt).toNat : Nat) : Int) := hf_10
                refine lv_istore (lv' := [(8, .int r_9), (7, .int j), (6, .int n0), (0, .ref h0), (1, .int pA), (2, .int pB), (3, .int pC), (4, .int pD), (5, .int pE)]) hx hb dX10_feed_80 hl (by decide) rfl (fun ls hl => ?_)
                refine lv_iload hx hb dX10_feed_82 (lv_at hl 0 rfl) ?_
                refine lv_if_eq (tgt := 108) hx hb dX10_feed_84 (by decide) (fun c_11 => ?_) (fun c_11 => ?_)
                ·
                  have c_11 : (r_9).toInt = (0:Int) := zz_eq rfl (by decide) c_11
                  obtain ⟨v_12, ev_12⟩ : ∃ y : Int32, y = j + 1 := ⟨_, rfl⟩
                  have hv_12 : v_12.toInt = ((j).toInt + (1:Int)) := by rw [ev_12]; exact zz_addI rfl (by decide) (by omega) (by omega)
                  refine lv_iinc (v := v_12) (lv' := [(7, .int v_12), (8, .int r_9), (6, .int n0), (0, .ref h0), (1, .int pA), (2, .int pB), (3, .int pC), (4, .int pD), (5, .int pE)]) hx hb dX10_feed_108 hl (k := 1) rfl (by rw [ev_12]; rfl) (by decide) rfl (fun ls hl => ?_)
                  refine lv_goto (tgt := 61) hx hb dX10_feed_111 (by decide) ?_
                  have hb9_j : (v_12 : Int32).toInt = ((j).toInt + (1:Int)) := hv_12
                  have hb9_n1 : (n1 : Int32).toInt = (n1).toInt := rfl
                  exact ih_7 v_12 n1 f H locs ls (by omega) (by omega) (by rw [hb9_j]; omega) (by omega) (hP.sub [0, 1] rfl) (hD.sub [0, 1] (by decide) rfl) hS (lv_sub hl [0, 2, 3, 4, 5, 6, 7, 8] rfl)
                ·
                  have c_11 : ¬ ((r_9).toInt = (0:Int)) := zz_eqn rfl (by decide) c_11
                  refine lv_aload_n hx hb dX10_feed_87 rfl (lv_at hl 3 rfl) ?_
                  refine va_get (D := (dC, dI)) (ci := 10) (v := .ref m_tape) (C := RX10) (T := TX10) (N := 52) hx hb hts hiX10 hown hK hP 0 rfl rfl 15 (by decide) hw4 (fun _ h9 => h9) rfl dX10_feed_88 ?_
                  refine lv_aload_n hx hb dX10_feed_91 rfl (lv_at hl 3 rfl) ?_
                  refine va_get (D := (dC, dI)) (ci := 10) (v := .int n1) (C := RX10) (T := TX10) (N := 52) hx hb hts hiX10 hown hK hP 0 rfl rfl 16 (by decide) hw0 (fun _ h9 => h9) rfl dX10_feed_92 ?_
                  refine lv_iload hx hb dX10_feed_95 (lv_at hl 0 rfl) ?_
                  refine va_iast hx hb hK hP hD hS 1 0 rfl rfl (zz_in rfl (by omega) (by omega)) dX10_feed_97 (fun H locs hP hD hS => ?_)
                  have hP : va_P (dC, dI) vwCl [(h0, .inr (10, [.int 0, .int 1, .int 0, .int (-1), .int 0, .int 0, .int 0, .int 20, .ref m_teamOf, .ref m_steady, .ref m_full, .ref m_climb, .ref m_rises, .ref m_winds, .ref m_primeAt, .ref m_tape, .int n1, .int 0, .int 0, .ref m_clauses, .ref m_letter, .ref m_sign, .ref m_bar, .ref m_pace, .ref m_rides, .ref m_isOut, .ref m_metre, .ref m_charge, .ref m_held, .ref m_seconds, .ref m_heldOften, .ref m_work, .ref m_primeSeconds, .int 0, .long 0, .ref m_row, .int 0, .ref m_groupSize, .ref m_place, .ref m_stood, .ref m_history, .ref m_groupHistory, .int 0, .int 0, .int 0, .int 0, .ref m_didRide, .ref m_toldRow, .ref m_passedBy, .ref m_total, .ref m_points, .ref m_used])), (m_tape, .inl (cI, 100, .inl (upd f (Int32.toNatClampNeg n1) r_9)))] H := hP
                  have hD : va_D A [(h0, .inr (10, [.int 0, .int 1, .int 0, .int (-1), .int 0, .int 0, .int 0, .int 20, .ref m_teamOf, .ref m_steady, .ref m_full, .ref m_climb, .ref m_rises, .ref m_winds, .ref m_primeAt, .ref m_tape, .int n1, .int 0, .int 0, .ref m_clauses, .ref m_letter, .ref m_sign, .ref m_bar, .ref m_pace, .ref m_rides, .ref m_isOut, .ref m_metre, .ref m_charge, .ref m_held, .ref m_seconds, .ref m_heldOften, .ref m_work, .ref m_primeSeconds, .int 0, .long 0, .ref m_row, .int 0, .ref m_groupSize, .ref m_place, .ref m_stood, .ref m_history, .ref m_groupHistory, .int 0, .int 0, .int 0, .int 0, .ref m_didRide, .ref m_toldRow, .ref m_passedBy, .ref m_total, .ref m_points, .ref m_used])), (m_tape, .inl (cI, 100, .inl (upd f (Int32.toNatClampNeg n1) r_9)))] := hD
                  refine lv_aload_n hx hb dX10_feed_98 rfl (lv_at hl 3 rfl) ?_
                  refine lv_dup hx hb dX10_feed_99 rfl ?_
                  refine va_get (D := (dC, dI)) (ci := 10) (v := .int n1) (C := RX10) (T := TX10) (N := 52) hx hb hts hiX10 hown hK hP 0 rfl rfl 16 (by decide) hw0 (fun _ h9 => h9) rfl dX10_feed_100 ?_
                  refine lv_iconst (v := 1) hx hb dX10_feed_103 (by decide) ?_
                  refine lv_iadd hx hb dX10_feed_104 ?_
                  refine lv_topi (fun v_13 ev_13 => ?_)
                  have hv_13 : v_13.toInt = ((n1).toInt + (1:Int)) := by rw [ev_13]; exact zz_addI rfl (by decide) (by omega) (by omega)
                  refine va_put (D := (dC, dI)) (ci := 10) (v := .int v_13) (ty := .int) (C := RX10) (T := TX10) (N := 52) hx hb hts hiX10 tyX10 tyX10_ok nmX10 hown hK hP hD hS 0 rfl rfl 16 (by decide) hw0 (fun _ h9 => h9) rfl (by decide +kernel) rfl rfl (Nat.le_of_ble_eq_true rfl) dX10_feed_105 (fun H locs hP hD hS => ?_)
                  have hP : va_P (dC, dI) vwCl [(h0, .inr (10, [.int 0, .int 1, .int 0, .int (-1), .int 0, .int 0, .int 0, .int 20, .ref m_teamOf, .ref m_steady, .ref m_full, .ref m_climb, .ref m_rises, .ref m_winds, .ref m_primeAt, .ref m_tape, .int v_13, .int 0, .int 0, .ref m_clauses, .ref m_letter, .ref m_sign, .ref m_bar, .ref m_pace, .ref m_rides, .ref m_isOut, .ref m_metre, .ref m_charge, .ref m_held, .ref m_seconds, .ref m_heldOften, .ref m_work, .ref m_primeSeconds, .int 0, .long 0, .ref m_row, .int 0, .ref m_groupSize, .ref m_place, .ref m_stood, .ref m_history, .ref m_groupHistory, .int 0, .int 0, .int 0, .int 0, .ref m_didRide, .ref m_toldRow, .ref m_passedBy, .ref m_total, .ref m_points, .ref m_used])), (m_tape, .inl (cI, 100, .inl (upd f (Int32.toNatClampNeg n1) r_9)))] H := hP
                  have hD : va_D A [(h0, .inr (10, [.int 0, .int 1, .int 0, .int (-1), .int 0, .int 0, .int 0, .int 20, .ref m_teamOf, .ref m_steady, .ref m_full, .ref m_climb, .ref m_rises, .ref m_winds, .ref m_primeAt, .ref m_tape, .int v_13, .int 0, .int 0, .ref m_clauses, .ref m_letter, .ref m_sign, .ref m_bar, .ref m_pace, .ref m_rides, .ref m_isOut, .ref m_metre, .ref m_charge, .ref m_held, .ref m_seconds, .ref m_heldOften, .ref m_work, .ref m_primeSeconds, .int 0, .long 0, .ref m_row, .int 0, .ref m_groupSize, .ref m_place, .ref m_stood, .ref m_history, .ref m_groupHistory, .int 0, .int 0, .int 0, .int 0, .ref m_didRide, .ref m_toldRow, .ref m_passedBy, .ref m_total, .ref m_points, .ref m_used])), (m_tape, .inl (cI, 100, .inl (upd f (Int32.toNatClampNeg n1) r_9)))] := hD
                  obtain ⟨v_14, ev_14⟩ : ∃ y : Int32, y = j + 1 := ⟨_, rfl⟩
                  have hv_14 : v_14.toInt = ((j).toInt + (1:Int)) := by rw [ev_14]; exact zz_addI rfl (by decide) (by omega) (by omega)
                  refine lv_iinc (v := v_14) (lv' := [(7, .int v_14), (8, .int r_9), (6, .int n0), (0, .ref h0), (1, .int pA), (2, .int pB), (3, .int pC), (4, .int pD), (5, .int pE)]) hx hb dX10_feed_108 hl (k := 1) rfl (by rw [ev_14]; rfl) (by decide) rfl (fun ls hl => ?_)
                  refine lv_goto (tgt := 61) hx hb dX10_feed_111 (by decide) ?_
                  have hb9_j : (v_14 : Int32).toInt = ((j).toInt + (1:Int)) := hv_14
                  have hb9_n1 : (v_13 : Int32).toInt = ((n1).toInt + (1:Int)) := hv_13
                  exact ih_7 v_14 v_13 (upd f (Int32.toNatClampNeg n1) r_9) H locs ls (by omega) (by omega) (by rw [hb9_j]; omega) (by omega) (hP.sub [0, 1] rfl) (hD.sub [0, 1] (by decide) rfl) hS (lv_sub hl [0, 2, 3, 4, 5, 6, 7, 8] rfl)
          have hb9_j : (0 : Int32).toInt = (0:Int) := (by decide)
          have hb9_n1 : (0 : Int32).toInt = (0:Int) := (by decide)
          exact L_6 1000 0 0 (fun _ => 0) H locs ls (by omega) (by omega) (by rfl) (by omega) hP hD hS hl
        ·
          have c_5 : ¬ (((0:Int) + (n0).toInt) ≤ (100:Int)) := zz_len hv_4 (by decide) c_5
          exact absurd c_5 (by omega)
      ·
        have c_3 : ¬ ((20:Int) ≤ (i).toInt) := zz_len (by decide) rfl c_3
        refine lv_iload hx hb dX10_feed_13 (lv_at hl 1 rfl) ?_
        refine lv_iload_n hx hb dX10_feed_15 rfl (lv_at hl 3 rfl) ?_
        refine lv_iload_n hx hb dX10_feed_16 rfl (lv_at hl 4 rfl) ?_
        refine lv_iload_n hx hb dX10_feed_17 rfl (lv_at hl 5 rfl) ?_
        refine lv_iload hx hb dX10_feed_18 (lv_at hl 6 rfl) ?_
        refine lv_iload hx hb dX10_feed_20 (lv_at hl 7 rfl) ?_
        refine lv_iload hx hb dX10_feed_22 (lv_at hl 0 rfl) ?_
        have hPc := hP.sub (ws' := []) [] rfl
        have hDc := hD.sub (ws' := []) [] (by decide) rfl
        have hFc := va_free (wc := []) hD hS hA [] rfl
        refine va_calli (va_runS (As := [.int pA, .int pB, .int pC, .int pD, .int pE, .int i]) (rest := [.int n0]) ⟨hx, hb, hml, hown, hts⟩ (c_X10_byteOf l dC dI cI cZ (H).size pA pA_i pA_h pB pB_i pB_h pC pC_i pC_h pD pD_i pD_h pE pE_i pE_h i ((i).toInt) rfl (by omega) (by omega)) ⟨callB_of 6 hts (zz_good zw_927) rfl rfl rfl hw1 hw2 (by decide +kernel) ⟨Nat.le_of_ble_eq_true rfl, Nat.le_of_ble_eq_true rfl⟩, hw3⟩ ⟨fun a U g mk q => by obtain ⟨q0, q1, qP, qK, qD⟩ := q; exact ⟨q0, q1, qP, va_K.moved (u := U) (U := U.calling g mk a) (Vm.Alike.refl U.vm) qK, qD⟩, fun U hU hW => ⟨rfl, by rw [hU], by rw [hU]; exact hPc, va_K.moved hW.alike hK, hDc.weaken (fun _ _ _ _ => trivial)⟩⟩ rfl rfl hl.1 rfl (lv_room (Nat.le_of_ble_eq_true rfl)) dX10_feed_24 ⟨Nat.le_of_ble_eq_true rfl, Nat.le_of_ble_eq_true rfl⟩) hS (fun q _ h => hFc q h) hFc (fun r_15 u t H1 locs ht hvm hpost hB hz1 hk1 hS => ?_)
        subst hpost
        obtain ⟨hf_16, hP1, hK1, hD1⟩ := hB
        rw [ht] at hP1
        obtain ⟨hP, hD⟩ := va_join (wr := [(h0, .inr (10, [.int 0, .int 1, .int 0, .int (-1), .int 0, .int 0, .int 0, .int 20, .ref m_teamOf, .ref m_steady, .ref m_full, .ref m_climb, .ref m_rises, .ref m_winds, .ref m_primeAt, .ref m_tape, .int 0, .int 0, .int 0, .ref m_clauses, .ref m_letter, .ref m_sign, .ref m_bar, .ref m_pace, .ref m_rides, .ref m_isOut, .ref m_metre, .ref m_charge, .ref m_held, .ref m_seconds, .ref m_heldOften, .ref m_work, .ref m_primeSeconds, .int 0, .long 0, .ref m_row, .int 0, .ref m_groupSize, .ref m_place, .ref m_stood, .ref m_history, .ref m_groupHistory, .int 0, .int 0, .int 0, .int 0, .ref m_didRide, .ref m_toldRow, .ref m_passedBy, .ref m_total, .ref m_points, .ref m_used])), (m_tape, .inl (cI, 100, .inl (fun _ => 0)))]) (w1 := []) hP hD [] [0, 1] rfl rfl (by decide) (by decide) hk1 hFc hP1 hD1
        generalize H1 = H at hP hS ⊢
        have hP : va_P (dC, dI) vwCl [(h0, .inr (10, [.int 0, .int 1, .int 0, .int (-1), .int 0, .int 0, .int 0, .int 20, .ref m_teamOf, .ref m_steady, .ref m_full, .ref m_climb, .ref m_rises, .ref m_winds, .ref m_primeAt, .ref m_tape, .int 0, .int 0, .int 0, .ref m_clauses, .ref m_letter, .ref m_sign, .ref m_bar, .ref m_pace, .ref m_rides, .ref m_isOut, .ref m_metre, .ref m_charge, .ref m_held, .ref m_seconds, .ref m_heldOften, .ref m_work, .ref m_primeSeconds, .int 0, .long 0, .ref m_row, .int 0, .ref m_groupSize, .ref m_place, .ref m_stood, .ref m_history, .ref m_groupHistory, .int 0, .int 0, .int 0, .int 0, .ref m_didRide, .ref m_toldRow, .ref m_passedBy, .ref m_total, .ref m_points, .ref m_used])), (m_tape, .inl (cI, 100, .inl (fun _ => 0)))] H := hP
        have hD : va_D A [(h0, .inr (10, [.int 0, .int 1, .int 0, .int (-1), .int 0, .int 0, .int 0, .int 20, .ref m_teamOf, .ref m_steady, .ref m_full, .ref m_climb, .ref m_rises, .ref m_winds, .ref m_primeAt, .ref m_tape, .int 0, .int 0, .int 0, .ref m_clauses, .ref m_letter, .ref m_sign, .ref m_bar, .ref m_pace, .ref m_rides, .ref m_isOut, .ref m_metre, .ref m_charge, .ref m_held, .ref m_seconds, .ref m_heldOften, .ref m_work, .ref m_primeSeconds, .int 0, .long 0, .ref m_row, .int 0, .ref m_groupSize, .ref m_place, .ref m_stood, .ref m_history, .ref m_groupHistory, .int 0, .int 0, .int 0, .int 0, .ref m_didRide, .ref m_toldRow, .ref m_passedBy, .ref m_total, .ref m_points, .ref m_used])), (m_tape, .inl (cI, 100, .inl (fun _ => 0)))] := hD
        have hf_16 : r_15.toInt = ((bz20 pA pB pC pD pE ((i).toInt).toNat : Nat) : Int) := hf_16
        refine lv_if_eq (tgt := 34) hx hb dX10_feed_27 (by decide) (fun c_17 => ?_) (fun c_17 => ?_)
        ·
          have c_17 : (r_15).toInt = (0:Int) := zz_eq rfl (by decide) c_17
          refine lv_iconst (v := 0) hx hb dX10_feed_34 (by decide) ?_
          refine lv_iadd hx hb dX10_feed_35 ?_
          refine lv_topi (fun v_18 ev_18 => ?_)
          have hv_18 : v_18.toInt = ((n0).toInt + (0:Int)) := by rw [ev_18]; exact zz_addI rfl (by decide) (by omega) (by omega)
          refine lv_istore (lv' := [(6, .int v_18), (7, .int i), (0, .ref h0), (1, .int pA), (2, .int pB), (3, .int pC), (4, .int pD), (5, .int pE)]) hx hb dX10_feed_36 hl (by decide) rfl (fun ls hl => ?_)
          obtain ⟨v_19, ev_19⟩ : ∃ y : Int32, y = i + 1 := ⟨_, rfl⟩
          have hv_19 : v_19.toInt = ((i).toInt + (1:Int)) := by rw [ev_19]; exact zz_addI rfl (by decide) (by omega) (by omega)
          refine lv_iinc (v := v_19) (lv' := [(7, .int v_19), (6, .int v_18), (0, .ref h0), (1, .int pA), (2, .int pB), (3, .int pC), (4, .int pD), (5, .int pE)]) hx hb dX10_feed_38 hl (k := 1) rfl (by rw [ev_19]; rfl) (by decide) rfl (fun ls hl => ?_)
          refine lv_goto (tgt := 6) hx hb dX10_feed_41 (by decide) ?_
          have hb9_n0 : (v_18 : Int32).toInt = ((n0).toInt + (0:Int)) := hv_18
          have hb9_i : (v_19 : Int32).toInt = ((i).toInt + (1:Int)) := hv_19
          exact ih_2 v_18 v_19 H locs ls (by omega) (by omega) (by rw [hb9_i]; omega) (by omega) (hP.sub [0, 1] rfl) (hD.sub [0, 1] (by decide) rfl) hS (lv_sub hl [0, 1, 2, 3, 4, 5, 6, 7] rfl)
        ·
          have c_17 : ¬ ((r_15).toInt = (0:Int)) := zz_eqn rfl (by decide) c_17
          refine lv_iconst (v := 1) hx hb dX10_feed_30 (by decide) ?_
          refine lv_goto (tgt := 35) hx hb dX10_feed_31 (by decide) ?_
          refine lv_iadd hx hb dX10_feed_35 ?_
          refine lv_topi (fun v_20 ev_20 => ?_)
          have hv_20 : v_20.toInt = ((n0).toInt + (1:Int)) := by rw [ev_20]; exact zz_addI rfl (by decide) (by omega) (by omega)
          refine lv_istore (lv' := [(6, .int v_20), (7, .int i), (0, .ref h0), (1, .int pA), (2, .int pB), (3, .int pC), (4, .int pD), (5, .int pE)]) hx hb dX10_feed_36 hl (by decide) rfl (fun ls hl => ?_)
          obtain ⟨v_21, ev_21⟩ : ∃ y : Int32, y = i + 1 := ⟨_, rfl⟩
          have hv_21 : v_21.toInt = ((i).toInt + (1:Int)) := by rw [ev_21]; exact zz_addI rfl (by decide) (by omega) (by omega)
          refine lv_iinc (v := v_21) (lv' := [(7, .int v_21), (6, .int v_20), (0, .ref h0), (1, .int pA), (2, .int pB), (3, .int pC), (4, .int pD), (5, .int pE)]) hx hb dX10_feed_38 hl (k := 1) rfl (by rw [ev_21]; rfl) (by decide) rfl (fun ls hl => ?_)
          refine lv_goto (tgt := 6) hx hb dX10_feed_41 (by decide) ?_
          have hb9_n0 : (v_20 : Int32).toInt = ((n0).toInt + (1:Int)) := hv_20
          have hb9_i : (v_21 : Int32).toInt = ((i).toInt + (1:Int)) := hv_21
          exact ih_2 v_20 v_21 H locs ls (by omega) (by omega) (by rw [hb9_i]; omega) (by omega) (hP.sub [0, 1] rfl) (hD.sub [0, 1] (by decide) rfl) hS (lv_sub hl [0, 1, 2, 3, 4, 5, 6, 7] rfl)
  have hb9_n0 : (0 : Int32).toInt = (0:Int) := (by decide)
  have hb9_i : (0 : Int32).toInt = (0:Int) := (by decide)
  exact L_1 1000 0 0 s.heap [] ls (by omega) (by omega) (by rfl) (by omega) hP hD hS hl
