set_option maxHeartbeats 4000000 in
set_option maxRecDepth 100000 in
theorem c_X8_byteOf (l : Launch) (dC : Nat → ClassId) (dI : Nat → Nat → Nat) (cI cZ : ClassId) (sz : Nat) (h0 : Nat) (x_bytes : Nat) (pW : Int32) (pW_i : Int) (pW_h : pW.toInt = pW_i) (pP : Int32) (pP_i : Int) (pP_h : pP.toInt = pP_i) (pL : Int32) (pL_i : Int) (pL_h : pL.toInt = pL_i) (hh0 : 0 ≤ pP_i) (hh1 : pP_i ≤ 3) : Met l yX8_byteOf (Cond.code yX8_byteOf cX8_byteOf 3 (some .int) :: lw_good) ({ frames := 0, cells := 0, slots := 0, locals := 0 }) (va_Pc [.ref h0, .int pW, .int pP] (fun U => U.heap.size = sz ∧ va_P (dC, dI) vwCl [(h0, .inr (8, [.int pL, .ref x_bytes]))] U.heap ∧ va_K (dC, dI) vwCl [(cI, .int), (cZ, .boolean)] U ∧ va_D (fun _ => True) [(h0, .inr (8, [.int pL, .ref x_bytes]))])) (va_Qi (fun (r u : Int32) => r = u) (fun u t => (u.toInt = ((bz pW pP_i.toNat : Nat) : Int)) ∧ va_P (dC, dI) vwCl [(h0, .inr (8, [.int pL, .ref x_bytes]))] t.heap ∧ va_K (dC, dI) vwCl [(cI, .int), (cZ, .boolean)] t ∧ va_D (va_A [(h0, .inr (8, [.int pL, .ref x_bytes]))] sz) [(h0, .inr (8, [.int pL, .ref x_bytes]))]) (va_A [(h0, .inr (8, [.int pL, .ref x_bytes]))] sz)) 0 0 (va_A [(h0, .inr (8, [.int pL, .ref x_bytes]))] sz) := by
  refine Met.ofW (cc := cX8_byteOf) (maxL := 3) (ret := (some .int)) (by decide) rfl ?_
  intro p e s m args below meth c s₁ B hml hv
  obtain ⟨rfl, hsz, hP, hK, hD0⟩ := hv
  have hx := B.exec
  have hb := B.bytes
  have hr := B.returns
  have hts := atoms_spec (ws := Cond.code yX8_byteOf cX8_byteOf 3 (some .int) :: lw_good) B.pre
  have hown : s.vm.findClass RX8 = some m.cls := findClass_of_methodNamed B.named
  have hlocks := B.notSynchronized
  subst hsz
  have hD := hD0.self (sz := s.heap.size)
  generalize hAe : va_A [(h0, .inr (8, [.int pL, .ref x_bytes]))] s.heap.size = A at hD ⊢
  have hA : ∀ q : Nat, s.heap.size ≤ q → A q := fun q h => by rw [← hAe]; exact Or.inr h
  have hS : va_S A s.heap s.heap [] := va_S.rf
  have hP : va_P (dC, dI) vwCl [(h0, .inr (8, [.int pL, .ref x_bytes]))] s.heap := hP
  have hl := lv_entry ([.ref h0, .int pW, .int pP]) (n := 3) (Nat.le_of_ble_eq_true rfl)
  rw [lg_entry_eq]
  generalize (lg_sl ([.ref h0, .int pW, .int pP]) ++ List.replicate (3 - (lg_sl ([.ref h0, .int pW, .int pP])).length) Slot.unset).toArray = ls at hl ⊢
  have hl : lv_has ls 3 [(0, .ref h0), (1, .int pW), (2, .int pP)] := hl
  refine lv_iload_n hx hb dX8_byteOf_0 rfl (lv_at hl 1 rfl) ?_
  refine lv_bipush (v := 8) hx hb dX8_byteOf_1 (by decide) ?_
  refine lv_iconst (v := 3) hx hb dX8_byteOf_3 (by decide) ?_
  refine lv_iload_n hx hb dX8_byteOf_4 rfl (lv_at hl 2 rfl) ?_
  refine lv_isub hx hb dX8_byteOf_5 ?_
  refine lv_topi (fun v_1 ev_1 => ?_)
  have hv_1 : v_1.toInt = ((3:Int) - pP_i) := by rw [ev_1]; exact zz_subI (by decide) pP_h (by omega) (by omega)
  refine lv_imul hx hb dX8_byteOf_6 ?_
  refine lv_topi (fun v_2 ev_2 => ?_)
  have hv_2 : v_2.toInt = ((8:Int) * ((3:Int) - pP_i)) := by rw [ev_2]; exact zz_mulI (by decide) hv_1 (by omega) (by omega)
  refine lv_iushr (v := (pW.toUInt32 >>> (v_2.toUInt32 &&& Int32.toUInt32 31)).toInt32) hx hb dX8_byteOf_7 rfl ?_
  refine lv_sipush (v := 255) hx hb dX8_byteOf_8 (by decide) ?_
  refine lv_iand hx hb dX8_byteOf_11 ?_
  have hP9 := hP.sub (ws' := [(h0, .inr (8, [.int pL, .ref x_bytes]))]) [0] rfl
  have hD9 := hD.sub (ws' := [(h0, .inr (8, [.int pL, .ref x_bytes]))]) [0] (by decide) rfl
  refine W.widen (k := 0) (n := 0) (Nat.le_of_ble_eq_true rfl) (Nat.le_of_ble_eq_true rfl) ?_
  have hu9 : (((pW.toUInt32 >>> (v_2.toUInt32 &&& Int32.toUInt32 31)).toInt32) &&& 255 : Int32).toInt = (((pW.toUInt32 >>> (v_2.toUInt32 &&& Int32.toUInt32 31)).toInt32) &&& 255).toInt := rfl
  have hf9_0 : (((pW.toUInt32 >>> (v_2.toUInt32 &&& Int32.toUInt32 31)).toInt32) &&& 255).toInt = ((bz pW pP_i.toNat : Nat) : Int) := zz_byteU pW v_2 (by omega) (by omega) hv_2
  exact W.iret (v := ((pW.toUInt32 >>> (v_2.toUInt32 &&& Int32.toUInt32 31)).toInt32) &&& 255) hx hb hr (fun t ht hW => ⟨⟨((pW.toUInt32 >>> (v_2.toUInt32 &&& Int32.toUInt32 31)).toInt32) &&& 255, ((pW.toUInt32 >>> (v_2.toUInt32 &&& Int32.toUInt32 31)).toInt32) &&& 255, rfl, rfl, hf9_0, by rw [ht]; exact hP9, va_K.moved hW.alike hK, hD9⟩, hS.F ht⟩) hS.2.2 dX8_byteOf_12

set_option maxHeartbeats 4000000 in
set_option maxRecDepth 100000 in
theorem c_X8_bytesIn (l : Launch) (dC : Nat → ClassId) (dI : Nat → Nat → Nat) (cI cZ : ClassId) (sz : Nat) (h0 : Nat) (x_bytes : Nat) (pW : Int32) (pW_i : Int) (pW_h : pW.toInt = pW_i) (pL : Int32) (pL_i : Int) (pL_h : pL.toInt = pL_i) : Met l yX8_bytesIn (Cond.code yX8_bytesIn cX8_bytesIn 4 (some .int) :: lw_good) ({ frames := 1, cells := 0, slots := 0, locals := 22 }) (va_Pc [.ref h0, .int pW] (fun U => U.heap.size = sz ∧ va_P (dC, dI) vwCl [(h0, .inr (8, [.int pL, .ref x_bytes]))] U.heap ∧ va_K (dC, dI) vwCl [(cI, .int), (cZ, .boolean)] U ∧ va_D (fun _ => True) [(h0, .inr (8, [.int pL, .ref x_bytes]))])) (va_Qi (fun (r u : Int32) => r = u) (fun u t => (u.toInt = ((bc pW 4 : Nat) : Int)) ∧ va_P (dC, dI) vwCl [(h0, .inr (8, [.int pL, .ref x_bytes]))] t.heap ∧ va_K (dC, dI) vwCl [(cI, .int), (cZ, .boolean)] t ∧ va_D (va_A [(h0, .inr (8, [.int pL, .ref x_bytes]))] sz) [(h0, .inr (8, [.int pL, .ref x_bytes]))]) (va_A [(h0, .inr (8, [.int pL, .ref x_bytes]))] sz)) 0 0 (va_A [(h0, .inr (8, [.int pL, .ref x_bytes]))] sz) := by
  refine Met.ofW (cc := cX8_bytesIn) (maxL := 4) (ret := (some .int)) (by decide) rfl ?_
  intro p e s m args below meth c s₁ B hml hv
  obtain ⟨rfl, hsz, hP, hK, hD0⟩ := hv
  have hx := B.exec
  have hb := B.bytes
  have hr := B.returns
  have hts := atoms_spec (ws := Cond.code yX8_bytesIn cX8_bytesIn 4 (some .int) :: lw_good) B.pre
  have hown : s.vm.findClass RX8 = some m.cls := findClass_of_methodNamed B.named
  have hlocks := B.notSynchronized
  have hw0 := hts (.initialized RX8) (List.mem_cons_of_mem _ zw_51)
  have hw1 := hts (.methodLink RX8 19 yX8_byteOf) (List.mem_cons_of_mem _ zw_430)
  have hw2 := hts (.instanceMethod yX8_byteOf) (List.mem_cons_of_mem _ zw_431)
  have hw3 := hts (.selects RX8 yX8_byteOf yX8_byteOf) (List.mem_cons_of_mem _ zw_432)
  subst hsz
  have hD := hD0.self (sz := s.heap.size)
  generalize hAe : va_A [(h0, .inr (8, [.int pL, .ref x_bytes]))] s.heap.size = A at hD ⊢
  have hA : ∀ q : Nat, s.heap.size ≤ q → A q := fun q h => by rw [← hAe]; exact Or.inr h
  have hS : va_S A s.heap s.heap [] := va_S.rf
  have hP : va_P (dC, dI) vwCl [(h0, .inr (8, [.int pL, .ref x_bytes]))] s.heap := hP
  have hl := lv_entry ([.ref h0, .int pW]) (n := 4) (Nat.le_of_ble_eq_true rfl)
  rw [lg_entry_eq]
  generalize (lg_sl ([.ref h0, .int pW]) ++ List.replicate (4 - (lg_sl ([.ref h0, .int pW])).length) Slot.unset).toArray = ls at hl ⊢
  have hl : lv_has ls 4 [(0, .ref h0), (1, .int pW)] := hl
  refine lv_iconst (v := 0) hx hb dX8_bytesIn_0 (by decide) ?_
  refine lv_istore_n (lv' := [(2, .int 0), (0, .ref h0), (1, .int pW)]) hx hb dX8_bytesIn_1 rfl hl (by decide) rfl (fun ls hl => ?_)
  refine lv_iconst (v := 0) hx hb dX8_bytesIn_2 (by decide) ?_
  refine lv_istore_n (lv' := [(3, .int 0), (2, .int 0), (0, .ref h0), (1, .int pW)]) hx hb dX8_bytesIn_3 rfl hl (by decide) rfl (fun ls hl => ?_)
  have L_1 : ∀ (n : Nat) (n0 : Int32) (i : Int32) (H : Heap) (locs : List Loc) (ls : Array Slot), (0 ≤ i.toInt) → (i.toInt ≤ 4) → (n0.toInt = ((bc pW i.toInt.toNat : Nat) : Int)) → (4 - i.toInt) < (n : Int) → va_P (dC, dI) vwCl [(h0, .inr (8, [.int pL, .ref x_bytes]))] H → va_D A [(h0, .inr (8, [.int pL, .ref x_bytes]))] → va_S A s.heap H locs → lv_has ls 4 [(3, .int i), (2, .int n0), (0, .ref h0), (1, .int pW)] → W p l e ((headSpec (Cond.code yX8_bytesIn cX8_bytesIn 4 (some .int) :: lw_good) ({ frames := 1, cells := 0, slots := 0, locals := 22 })).room) s m (([.ref h0, .int pW] : List Value).toArray) below meth c H locs 0 0 (MQ below (va_Qi (fun (r u : Int32) => r = u) (fun u t => (u.toInt = ((bc pW 4 : Nat) : Int)) ∧ va_P (dC, dI) vwCl [(h0, .inr (8, [.int pL, .ref x_bytes]))] t.heap ∧ va_K (dC, dI) vwCl [(cI, .int), (cZ, .boolean)] t ∧ va_D A [(h0, .inr (8, [.int pL, .ref x_bytes]))]) A) (([.ref h0, .int pW] : List Value).toArray) s 0 0 A) (F0 m 4 ls []) := by
    intro n
    induction n with
    | zero =>
      intro n0 i H locs ls hI0 hI1 hI2 hM
      exact absurd hM (by omega)
    | succ n ih =>
      intro n0 i H locs ls hI0 hI1 hI2 hM hP hD hS hl
      have ih_2 := ih
      have hst := bc_step pW hI0
      have hbl := bc_le pW i.toInt.toNat
      refine lv_iload_n hx hb dX8_bytesIn_4 rfl (lv_at hl 0 rfl) ?_
      refine lv_iconst (v := 4) hx hb dX8_bytesIn_5 (by decide) ?_
      refine lv_icmp_ge (tgt := 27) hx hb dX8_bytesIn_6 (by decide) (fun c_3 => ?_) (fun c_3 => ?_)
      ·
        have c_3 : (4:Int) ≤ (i).toInt := zz_le (by decide) rfl c_3
        refine lv_iload_n hx hb dX8_bytesIn_27 rfl (lv_at hl 1 rfl) ?_
        have hP9 := hP.sub (ws' := [(h0, .inr (8, [.int pL, .ref x_bytes]))]) [0] rfl
        have hD9 := hD.sub (ws' := [(h0, .inr (8, [.int pL, .ref x_bytes]))]) [0] (by decide) rfl
        refine W.widen (k := 0) (n := 0) (Nat.le_of_ble_eq_true rfl) (Nat.le_of_ble_eq_true rfl) ?_
        have hu9 : (n0 : Int32).toInt = (n0).toInt := rfl
        have hf9_0 : n0.toInt = ((bc pW 4 : Nat) : Int) := by have e4 : i.toInt.toNat = 4 := (by omega); rw [e4] at hI2; omega
        exact W.iret (v := n0) hx hb hr (fun t ht hW => ⟨⟨n0, n0, rfl, rfl, hf9_0, by rw [ht]; exact hP9, va_K.moved hW.alike hK, hD9⟩, hS.F ht⟩) hS.2.2 dX8_bytesIn_28
      ·
        have c_3 : ¬ ((4:Int) ≤ (i).toInt) := zz_len (by decide) rfl c_3
        refine lv_aload_n hx hb dX8_bytesIn_9 rfl (lv_at hl 2 rfl) ?_
        refine lv_iload_n hx hb dX8_bytesIn_10 rfl (lv_at hl 3 rfl) ?_
        refine lv_iload_n hx hb dX8_bytesIn_11 rfl (lv_at hl 0 rfl) ?_
        have hPc := hP.sub (ws' := [(h0, .inr (8, [.int pL, .ref x_bytes]))]) [0] rfl
        have hDc := hD.sub (ws' := [(h0, .inr (8, [.int pL, .ref x_bytes]))]) [0] (by decide) rfl
        have hFc := va_free (wc := [(h0, .inr (8, [.int pL, .ref x_bytes]))]) hD hS hA [0] rfl
        refine va_calli (va_runV (As := [.int pW, .int i]) (rest := []) ⟨hx, hb, hml, hown, hts⟩ (c_X8_byteOf l dC dI cI cZ (H).size h0 x_bytes pW pW_i pW_h i ((i).toInt) rfl pL pL_i pL_h (by omega) (by omega)) ⟨callB_of 2 hts (zz_good zw_433) rfl rfl rfl hw0 hw1 (by decide +kernel) ⟨Nat.le_of_ble_eq_true rfl, Nat.le_of_ble_eq_true rfl⟩, hw2, hw3⟩ ⟨fun a U g mk q => by obtain ⟨q0, q1, qP, qK, qD⟩ := q; exact ⟨q0, q1, qP, va_K.moved (u := U) (U := U.calling g mk a) (Vm.Alike.refl U.vm) qK, qD⟩, va_recv hK hPc (ci := 8) (q0 := 0) rfl rfl, fun U hU hW => ⟨rfl, by rw [hU], by rw [hU]; exact hPc, va_K.moved hW.alike hK, hDc.weaken (fun _ _ _ _ => trivial)⟩⟩ rfl rfl hl.1 rfl (lv_room (Nat.le_of_ble_eq_true rfl)) dX8_bytesIn_12 ⟨Nat.le_of_ble_eq_true rfl, Nat.le_of_ble_eq_true rfl⟩) hS (fun q _ h => hFc q h) hFc (fun r_4 u t H1 locs ht hvm hpost hB hz1 hk1 hS => ?_)
        subst hpost
        obtain ⟨hf_5, hP1, hK1, hD1⟩ := hB
        rw [ht] at hP1
        obtain ⟨hP, hD⟩ := va_join (wr := []) (w1 := [(h0, .inr (8, [.int pL, .ref x_bytes]))]) hP hD [0] [] rfl rfl (by decide) (by decide) hk1 hFc hP1 hD1
        generalize H1 = H at hP hS ⊢
        have hP : va_P (dC, dI) vwCl [(h0, .inr (8, [.int pL, .ref x_bytes]))] H := hP
        have hD : va_D A [(h0, .inr (8, [.int pL, .ref x_bytes]))] := hD
        have hf_5 : r_4.toInt = ((bz pW ((i).toInt).toNat : Nat) : Int) := hf_5
        refine lv_if_eq (tgt := 21) hx hb dX8_bytesIn_15 (by decide) (fun c_6 => ?_) (fun c_6 => ?_)
        ·
          have c_6 : (r_4).toInt = (0:Int) := zz_eq rfl (by decide) c_6
          obtain ⟨v_7, ev_7⟩ : ∃ y : Int32, y = i + 1 := ⟨_, rfl⟩
          have hv_7 : v_7.toInt = ((i).toInt + (1:Int)) := by rw [ev_7]; exact zz_addI rfl (by decide) (by omega) (by omega)
          refine lv_iinc (v := v_7) (lv' := [(3, .int v_7), (2, .int n0), (0, .ref h0), (1, .int pW)]) hx hb dX8_bytesIn_21 hl (k := 0) rfl (by rw [ev_7]; rfl) (by decide) rfl (fun ls hl => ?_)
          refine lv_goto (tgt := 4) hx hb dX8_bytesIn_24 (by decide) ?_
          have hb9_n0 : (n0 : Int32).toInt = (n0).toInt := rfl
          have hb9_i : (v_7 : Int32).toInt = ((i).toInt + (1:Int)) := hv_7
          exact ih_2 n0 v_7 H locs ls (by omega) (by omega) (by rw [hb9_i]; omega) (by omega) (hP.sub [0] rfl) (hD.sub [0] (by decide) rfl) hS (lv_sub hl [0, 1, 2, 3] rfl)
        ·
          have c_6 : ¬ ((r_4).toInt = (0:Int)) := zz_eqn rfl (by decide) c_6
          obtain ⟨v_8, ev_8⟩ : ∃ y : Int32, y = n0 + 1 := ⟨_, rfl⟩
          have hv_8 : v_8.toInt = ((n0).toInt + (1:Int)) := by rw [ev_8]; exact zz_addI rfl (by decide) (by omega) (by omega)
          refine lv_iinc (v := v_8) (lv' := [(2, .int v_8), (3, .int i), (0, .ref h0), (1, .int pW)]) hx hb dX8_bytesIn_18 hl (k := 1) rfl (by rw [ev_8]; rfl) (by decide) rfl (fun ls hl => ?_)
          obtain ⟨v_9, ev_9⟩ : ∃ y : Int32, y = i + 1 := ⟨_, rfl⟩
          have hv_9 : v_9.toInt = ((i).toInt + (1:Int)) := by rw [ev_9]; exact zz_addI rfl (by decide) (by omega) (by omega)
          refine lv_iinc (v := v_9) (lv' := [(3, .int v_9), (2, .int v_8), (0, .ref h0), (1, .int pW)]) hx hb dX8_bytesIn_21 hl (k := 1) rfl (by rw [ev_9]; rfl) (by decide) rfl (fun ls hl => ?_)
          refine lv_goto (tgt := 4) hx hb dX8_bytesIn_24 (by decide) ?_
          have hb9_n0 : (v_8 : Int32).toInt = ((n0).toInt + (1:Int)) := hv_8
          have hb9_i : (v_9 : Int32).toInt = ((i).toInt + (1:Int)) := hv_9
          exact ih_2 v_8 v_9 H locs ls (by omega) (by omega) (by rw [hb9_i]; omega) (by omega) (hP.sub [0] rfl) (hD.sub [0] (by decide) rfl) hS (lv_sub hl [0, 1, 2, 3] rfl)
  have hb9_n0 : (0 : Int32).toInt = (0:Int) := (by decide)
  have hb9_i : (0 : Int32).toInt = (0:Int) := (by decide)
  exact L_1 1000 0 0 s.heap [] ls (by omega) (by omega) (by rfl) (by omega) hP hD hS hl

set_option maxHeartbeats 4000000 in
set_option maxRecDepth 100000 in
theorem c_X8_append (l : Launch) (dC : Nat → ClassId) (dI : Nat → Nat → Nat) (cI cZ : ClassId) (sz : Nat) (h0 : Nat) (x_bytes : Nat) (pf : Nat → Int32) (pW : Int32) (pW_i : Int) (pW_h : pW.toInt = pW_i) (pL : Int32) (pL_i : Int) (pL_h : pL.toInt = pL_i) (hh0 : 0 ≤ pL_i) (hh1 : pL_i ≤ 96) : Met l yX8_append (Cond.code yX8_append cX8_append 4 none :: lw_good) ({ frames := 1, cells := 0, slots := 0, locals := 22 }) (va_Pc [.ref h0, .int pW] (fun U => U.heap.size = sz ∧ va_P (dC, dI) vwCl [(h0, .inr (8, [.int pL, .ref x_bytes])), (x_bytes, .inl (cI, 100, .inl pf))] U.heap ∧ va_K (dC, dI) vwCl [(cI, .int), (cZ, .boolean)] U ∧ va_D (fun _ => True) [(h0, .inr (8, [.int pL, .ref x_bytes])), (x_bytes, .inl (cI, 100, .inl pf))])) (va_Qv (fun _ : Unit => True) (fun _ t => ∃ (pL2 : Int32) (pf2 : Nat → Int32), (pL2.toInt = pL_i + ((bc pW 4 : Nat) : Int)) ∧ va_P (dC, dI) vwCl [(h0, .inr (8, [.int pL2, .ref x_bytes])), (x_bytes, .inl (cI, 100, .inl pf2))] t.heap ∧ va_K (dC, dI) vwCl [(cI, .int), (cZ, .boolean)] t ∧ va_D (va_A [(h0, .inr (8, [.int pL, .ref x_bytes])), (x_bytes, .inl (cI, 100, .inl pf))] sz) [(h0, .inr (8, [.int pL2, .ref x_bytes])), (x_bytes, .inl (cI, 100, .inl pf2))]) (va_A [(h0, .inr (8, [.int pL, .ref x_bytes])), (x_bytes, .inl (cI, 100, .inl pf))] sz)) 0 0 (va_A [(h0, .inr (8, [.int pL, .ref x_bytes])), (x_bytes, .inl (cI, 100, .inl pf))] sz) := by
  refine Met.ofW (cc := cX8_append) (maxL := 4) (ret := none) (by decide) rfl ?_
  intro p e s m args below meth c s₁ B hml hv
  obtain ⟨rfl, hsz, hP, hK, hD0⟩ := hv
  have hx := B.exec
  have hb := B.bytes
  have hr := B.returns
  have hts := atoms_spec (ws := Cond.code yX8_append cX8_append 4 none :: lw_good) B.pre
  have hown : s.vm.findClass RX8 = some m.cls := findClass_of_methodNamed B.named
  have hlocks := B.notSynchronized
  have hiX8 : ∀ w ∈ wsX80, w ∈ (Cond.code yX8_append cX8_append 4 none :: lw_good) := fun w h => List.mem_cons_of_mem _ (zi_X8 w h)
  have hw0 := hts (.initialized RX8) (List.mem_cons_of_mem _ zw_51)
  have hw1 := hts (.methodLink RX8 19 yX8_byteOf) (List.mem_cons_of_mem _ zw_430)
  have hw2 := hts (.instanceMethod yX8_byteOf) (List.mem_cons_of_mem _ zw_431)
  have hw3 := hts (.selects RX8 yX8_byteOf yX8_byteOf) (List.mem_cons_of_mem _ zw_432)
  have hw4 := hts (.fieldLink RX8 9 "BunchRace$Tape" "length" "I") (List.mem_cons_of_mem _ zw_141)
  have hw5 := hts (.fieldLink RX8 15 "BunchRace$Tape" "bytes" "[I") (List.mem_cons_of_mem _ zw_144)
  subst hsz
  have hD := hD0.self (sz := s.heap.size)
  generalize hAe : va_A [(h0, .inr (8, [.int pL, .ref x_bytes])), (x_bytes, .inl (cI, 100, .inl pf))] s.heap.size = A at hD ⊢
  have hA : ∀ q : Nat, s.heap.size ≤ q → A q := fun q h => by rw [← hAe]; exact Or.inr h
  have hS : va_S A s.heap s.heap [] := va_S.rf
  have hP : va_P (dC, dI) vwCl [(h0, .inr (8, [.int pL, .ref x_bytes])), (x_bytes, .inl (cI, 100, .inl pf))] s.heap := hP
  have hl := lv_entry ([.ref h0, .int pW]) (n := 4) (Nat.le_of_ble_eq_true rfl)
  rw [lg_entry_eq]
  generalize (lg_sl ([.ref h0, .int pW]) ++ List.replicate (4 - (lg_sl ([.ref h0, .int pW])).length) Slot.unset).toArray = ls at hl ⊢
  have hl : lv_has ls 4 [(0, .ref h0), (1, .int pW)] := hl
  refine lv_iconst (v := 0) hx hb dX8_append_0 (by decide) ?_
  refine lv_istore_n (lv' := [(2, .int 0), (0, .ref h0), (1, .int pW)]) hx hb dX8_append_1 rfl hl (by decide) rfl (fun ls hl => ?_)
  have L_1 : ∀ (n : Nat) (i : Int32) (n0 : Int32) (f : Nat → Int32) (H : Heap) (locs : List Loc) (ls : Array Slot), (0 ≤ i.toInt) → (i.toInt ≤ 4) → (n0.toInt = pL_i + ((bc pW i.toInt.toNat : Nat) : Int)) → (4 - i.toInt) < (n : Int) → va_P (dC, dI) vwCl [(h0, .inr (8, [.int n0, .ref x_bytes])), (x_bytes, .inl (cI, 100, .inl f))] H → va_D A [(h0, .inr (8, [.int n0, .ref x_bytes])), (x_bytes, .inl (cI, 100, .inl f))] → va_S A s.heap H locs → lv_has ls 4 [(2, .int i), (0, .ref h0), (1, .int pW)] → W p l e ((headSpec (Cond.code yX8_append cX8_append 4 none :: lw_good) ({ frames := 1, cells := 0, slots := 0, locals := 22 })).room) s m (([.ref h0, .int pW] : List Value).toArray) below meth c H locs 0 0 (MQ below (va_Qv (fun _ : Unit => True) (fun _ t => ∃ (pL2 : Int32) (pf2 : Nat → Int32), (pL2.toInt = pL_i + ((bc pW 4 : Nat) : Int)) ∧ va_P (dC, dI) vwCl [(h0, .inr (8, [.int pL2, .ref x_bytes])), (x_bytes, .inl (cI, 100, .inl pf2))] t.heap ∧ va_K (dC, dI) vwCl [(cI, .int), (cZ, .boolean)] t ∧ va_D A [(h0, .inr (8, [.int pL2, .ref x_bytes])), (x_bytes, .inl (cI, 100, .inl pf2))]) A) (([.ref h0, .int pW] : List Value).toArray) s 0 0 A) (F0 m 2 ls []) := by
    intro n
    induction n with
    | zero =>
      intro i n0 f H locs ls hI0 hI1 hI2 hM
      exact absurd hM (by omega)
    | succ n ih =>
      intro i n0 f H locs ls hI0 hI1 hI2 hM hP hD hS hl
      have ih_2 := ih
      have hst := bc_step pW hI0
      have hbl := bc_le pW i.toInt.toNat
      refine lv_iload_n hx hb dX8_append_2 rfl (lv_at hl 0 rfl) ?_
      refine lv_iconst (v := 4) hx hb dX8_append_3 (by decide) ?_
      refine lv_icmp_ge (tgt := 53) hx hb dX8_append_4 (by decide) (fun c_3 => ?_) (fun c_3 => ?_)
      ·
        have c_3 : (4:Int) ≤ (i).toInt := zz_le (by decide) rfl c_3
        have hP9 := hP.sub (ws' := [(h0, .inr (8, [.int n0, .ref x_bytes])), (x_bytes, .inl (cI, 100, .inl f))]) [0, 1] rfl
        have hD9 := hD.sub (ws' := [(h0, .inr (8, [.int n0, .ref x_bytes])), (x_bytes, .inl (cI, 100, .inl f))]) [0, 1] (by decide) rfl
        refine W.widen (k := 0) (n := 0) (Nat.le_of_ble_eq_true rfl) (Nat.le_of_ble_eq_true rfl) ?_
        have hx9_pL2 : (n0 : Int32).toInt = (n0).toInt := rfl
        have hf9_0 : n0.toInt = pL_i + ((bc pW 4 : Nat) : Int) := by have e4 : i.toInt.toNat = 4 := (by omega); rw [e4] at hI2; omega
        exact W.vret hx hb hr (fun t ht hW => ⟨⟨(), rfl, trivial, n0, f, hf9_0, by rw [ht]; exact hP9, va_K.moved hW.alike hK, hD9⟩, hS.F ht⟩) hS.2.2 dX8_append_53
      ·
        have c_3 : ¬ ((4:Int) ≤ (i).toInt) := zz_len (by decide) rfl c_3
        refine lv_aload_n hx hb dX8_append_7 rfl (lv_at hl 1 rfl) ?_
        refine lv_iload_n hx hb dX8_append_8 rfl (lv_at hl 2 rfl) ?_
        refine lv_iload_n hx hb dX8_append_9 rfl (lv_at hl 0 rfl) ?_
        have hPc := hP.sub (ws' := [(h0, .inr (8, [.int n0, .ref x_bytes]))]) [0] rfl
        have hDc := hD.sub (ws' := [(h0, .inr (8, [.int n0, .ref x_bytes]))]) [0] (by decide) rfl
        have hFc := va_free (wc := [(h0, .inr (8, [.int n0, .ref x_bytes]))]) hD hS hA [0] rfl
        refine va_calli (va_runV (As := [.int pW, .int i]) (rest := []) ⟨hx, hb, hml, hown, hts⟩ (c_X8_byteOf l dC dI cI cZ (H).size h0 x_bytes pW pW_i pW_h i ((i).toInt) rfl n0 ((n0).toInt) rfl (by omega) (by omega)) ⟨callB_of 2 hts (zz_good zw_433) rfl rfl rfl hw0 hw1 (by decide +kernel) ⟨Nat.le_of_ble_eq_true rfl, Nat.le_of_ble_eq_true rfl⟩, hw2, hw3⟩ ⟨fun a U g mk q => by obtain ⟨q0, q1, qP, qK, qD⟩ := q; exact ⟨q0, q1, qP, va_K.moved (u := U) (U := U.calling g mk a) (Vm.Alike.refl U.vm) qK, qD⟩, va_recv hK hPc (ci := 8) (q0 := 0) rfl rfl, fun U hU hW => ⟨rfl, by rw [hU], by rw [hU]; exact hPc, va_K.moved hW.alike hK, hDc.weaken (fun _ _ _ _ => trivial)⟩⟩ rfl rfl hl.1 rfl (lv_room (Nat.le_of_ble_eq_true rfl)) dX8_append_10 ⟨Nat.le_of_ble_eq_true rfl, Nat.le_of_ble_eq_true rfl⟩) hS (fun q _ h => hFc q h) hFc (fun r_4 u t H1 locs ht hvm hpost hB hz1 hk1 hS => ?_)
        subst hpost
        obtain ⟨hf_5, hP1, hK1, hD1⟩ := hB
        rw [ht] at hP1
        obtain ⟨hP, hD⟩ := va_join (wr := [(x_bytes, .inl (cI, 100, .inl f))]) (w1 := [(h0, .inr (8, [.int n0, .ref x_bytes]))]) hP hD [0] [1] rfl rfl (by decide) (by decide) hk1 hFc hP1 hD1
        generalize H1 = H at hP hS ⊢
        have hP : va_P (dC, dI) vwCl [(x_bytes, .inl (cI, 100, .inl f)), (h0, .inr (8, [.int n0, .ref x_bytes]))] H := hP
        have hD : va_D A [(x_bytes, .inl (cI, 100, .inl f)), (h0, .inr (8, [.int n0, .ref x_bytes]))] := hD
        have hf_5 : r_4.toInt = ((bz pW ((i).toInt).toNat : Nat) : Int) := hf_5
        refine lv_istore_n (lv' := [(3, .int r_4), (2, .int i), (0, .ref h0), (1, .int pW)]) hx hb dX8_append_13 rfl hl (by decide) rfl (fun ls hl => ?_)
        refine lv_iload_n hx hb dX8_append_14 rfl (lv_at hl 0 rfl) ?_
        refine lv_if_eq (tgt := 47) hx hb dX8_append_15 (by decide) (fun c_6 => ?_) (fun c_6 => ?_)
        ·
          have c_6 : (r_4).toInt = (0:Int) := zz_eq rfl (by decide) c_6
          obtain ⟨v_7, ev_7⟩ : ∃ y : Int32, y = i + 1 := ⟨_, rfl⟩
          have hv_7 : v_7.toInt = ((i).toInt + (1:Int)) := by rw [ev_7]; exact zz_addI rfl (by decide) (by omega) (by omega)
          refine lv_iinc (v := v_7) (lv' := [(2, .int v_7), (3, .int r_4), (0, .ref h0), (1, .int pW)]) hx hb dX8_append_47 hl (k := 1) rfl (by rw [ev_7]; rfl) (by decide) rfl (fun ls hl => ?_)
          refine lv_goto (tgt := 2) hx hb dX8_append_50 (by decide) ?_
          have hb9_i : (v_7 : Int32).toInt = ((i).toInt + (1:Int)) := hv_7
          have hb9_n0 : (n0 : Int32).toInt = (n0).toInt := rfl
          exact ih_2 v_7 n0 f H locs ls (by omega) (by omega) (by rw [hb9_i]; omega) (by omega) (hP.sub [1, 0] rfl) (hD.sub [1, 0] (by decide) rfl) hS (lv_sub hl [0, 2, 3] rfl)
        ·
          have c_6 : ¬ ((r_4).toInt = (0:Int)) := zz_eqn rfl (by decide) c_6
          refine lv_aload_n hx hb dX8_append_18 rfl (lv_at hl 2 rfl) ?_
          refine va_get (D := (dC, dI)) (ci := 8) (v := .int n0) (C := RX8) (T := TX8) (N := 2) hx hb hts hiX8 hown hK hP 1 rfl rfl 0 (by decide) hw4 (fun _ h9 => h9) rfl dX8_append_19 ?_
          refine lv_bipush (v := 100) hx hb dX8_append_22 (by decide) ?_
          refine lv_icmp_ge (tgt := 47) hx hb dX8_append_24 (by decide) (fun c_8 => ?_) (fun c_8 => ?_)
          ·
            have c_8 : (100:Int) ≤ (n0).toInt := zz_le (by decide) rfl c_8
            exact absurd c_8 (by omega)
          ·
            have c_8 : ¬ ((100:Int) ≤ (n0).toInt) := zz_len (by decide) rfl c_8
            refine lv_aload_n hx hb dX8_append_27 rfl (lv_at hl 2 rfl) ?_
            refine va_get (D := (dC, dI)) (ci := 8) (v := .ref x_bytes) (C := RX8) (T := TX8) (N := 2) hx hb hts hiX8 hown hK hP 1 rfl rfl 1 (by decide) hw5 (fun _ h9 => h9) rfl dX8_append_28 ?_
            refine lv_aload_n hx hb dX8_append_31 rfl (lv_at hl 2 rfl) ?_
            refine va_get (D := (dC, dI)) (ci := 8) (v := .int n0) (C := RX8) (T := TX8) (N := 2) hx hb hts hiX8 hown hK hP 1 rfl rfl 0 (by decide) hw4 (fun _ h9 => h9) rfl dX8_append_32 ?_
            refine lv_iload_n hx hb dX8_append_35 rfl (lv_at hl 0 rfl) ?_
            refine va_iast hx hb hK hP hD hS 0 0 rfl rfl (zz_in rfl (by omega) (by omega)) dX8_append_36 (fun H locs hP hD hS => ?_)
            have hP : va_P (dC, dI) vwCl [(x_bytes, .inl (cI, 100, .inl (upd f (Int32.toNatClampNeg n0) r_4))), (h0, .inr (8, [.int n0, .ref x_bytes]))] H := hP
            have hD : va_D A [(x_bytes, .inl (cI, 100, .inl (upd f (Int32.toNatClampNeg n0) r_4))), (h0, .inr (8, [.int n0, .ref x_bytes]))] := hD
            refine lv_aload_n hx hb dX8_append_37 rfl (lv_at hl 2 rfl) ?_
            refine lv_dup hx hb dX8_append_38 rfl ?_
            refine va_get (D := (dC, dI)) (ci := 8) (v := .int n0) (C := RX8) (T := TX8) (N := 2) hx hb hts hiX8 hown hK hP 1 rfl rfl 0 (by decide) hw4 (fun _ h9 => h9) rfl dX8_append_39 ?_
            refine lv_iconst (v := 1) hx hb dX8_append_42 (by decide) ?_
            refine lv_iadd hx hb dX8_append_43 ?_
            refine lv_topi (fun v_9 ev_9 => ?_)
            have hv_9 : v_9.toInt = ((n0).toInt + (1:Int)) := by rw [ev_9]; exact zz_addI rfl (by decide) (by omega) (by omega)
            refine va_put (D := (dC, dI)) (ci := 8) (v := .int v_9) (ty := .int) (C := RX8) (T := TX8) (N := 2) hx hb hts hiX8 tyX8 tyX8_ok nmX8 hown hK hP hD hS 1 rfl rfl 0 (by decide) hw4 (fun _ h9 => h9) rfl (by decide +kernel) rfl rfl (Nat.le_of_ble_eq_true rfl) dX8_append_44 (fun H locs hP hD hS => ?_)
            have hP : va_P (dC, dI) vwCl [(x_bytes, .inl (cI, 100, .inl (upd f (Int32.toNatClampNeg n0) r_4))), (h0, .inr (8, [.int v_9, .ref x_bytes]))] H := hP
            have hD : va_D A [(x_bytes, .inl (cI, 100, .inl (upd f (Int32.toNatClampNeg n0) r_4))), (h0, .inr (8, [.int v_9, .ref x_bytes]))] := hD
            obtain ⟨v_10, ev_10⟩ : ∃ y : Int32, y = i + 1 := ⟨_, rfl⟩
            have hv_10 : v_10.toInt = ((i).toInt + (1:Int)) := by rw [ev_10]; exact zz_addI rfl (by decide) (by omega) (by omega)
            refine lv_iinc (v := v_10) (lv' := [(2, .int v_10), (3, .int r_4), (0, .ref h0), (1, .int pW)]) hx hb dX8_append_47 hl (k := 1) rfl (by rw [ev_10]; rfl) (by decide) rfl (fun ls hl => ?_)
            refine lv_goto (tgt := 2) hx hb dX8_append_50 (by decide) ?_
            have hb9_i : (v_10 : Int32).toInt = ((i).toInt + (1:Int)) := hv_10
            have hb9_n0 : (v_9 : Int32).toInt = ((n0).toInt + (1:Int)) := hv_9
            exact ih_2 v_10 v_9 (upd f (Int32.toNatClampNeg n0) r_4) H locs ls (by omega) (by omega) (by rw [hb9_i]; omega) (by omega) (hP.sub [1, 0] rfl) (hD.sub [1, 0] (by decide) rfl) hS (lv_sub hl [0, 2, 3] rfl)
  have hb9_i : (0 : Int32).toInt = (0:Int) := (by decide)
  have hb9_n0 : (pL : Int32).toInt = pL_i := pL_h
  exact L_1 1000 0 pL pf s.heap [] ls (by omega) (by omega) (by rw [hb9_n0, hb9_i]; exact (Int.add_zero _).symm) (by omega) hP hD hS hl

set_option maxHeartbeats 4000000 in
set_option maxRecDepth 100000 in
theorem c_X9_feed (l : Launch) (dC : Nat → ClassId) (dI : Nat → Nat → Nat) (cI cZ : ClassId) (sz : Nat) (h0 : Nat) (x_riders : Nat) (x_road : Nat) (x_tape : Nat) (x_book : Nat) (x_reader : Nat) (x_latest : Nat) (x_log : Nat) (x_trial : Nat) (x_stages : Nat) (x_ta_bytes : Nat) (pA : Int32) (pA_i : Int) (pA_h : pA.toInt = pA_i) (pB : Int32) (pB_i : Int) (pB_h : pB.toInt = pB_i) (pC : Int32) (pC_i : Int) (pC_h : pC.toInt = pC_i) (pD : Int32) (pD_i : Int) (pD_h : pD.toInt = pD_i) (pE : Int32) (pE_i : Int) (pE_h : pE.toInt = pE_i) : Met l yX9_feed (Cond.code yX9_feed cX9_feed 7 (some .int) :: lw_good) ({ frames := 2, cells := 0, slots := 0, locals := 45 }) (va_Pc [.ref h0, .int pA, .int pB, .int pC, .int pD, .int pE] (fun U => U.heap.size = sz ∧ va_P (dC, dI) vwCl [(h0, .inr (9, [.ref x_riders, .ref x_road, .ref x_tape, .ref x_book, .ref x_reader, .ref x_latest, .ref x_log, .ref x_trial, .ref x_stages, .int 0, .int 0, .int 0])), (x_tape, .inr (8, [.int 0, .ref x_ta_bytes])), (x_ta_bytes, .inl (cI, 100, .inl (fun _ => 0)))] U.heap ∧ va_K (dC, dI) vwCl [(cI, .int), (cZ, .boolean)] U ∧ va_D (fun _ => True) [(h0, .inr (9, [.ref x_riders, .ref x_road, .ref x_tape, .ref x_book, .ref x_reader, .ref x_latest, .ref x_log, .ref x_trial, .ref x_stages, .int 0, .int 0, .int 0])), (x_tape, .inr (8, [.int 0, .ref x_ta_bytes])), (x_ta_bytes, .inl (cI, 100, .inl (fun _ => 0)))])) (va_Qi (fun (r u : Int32) => r = u) (fun u t => (u.toInt = ((bc pA 4 : Nat) : Int) + ((bc pB 4 : Nat) : Int) + ((bc pC 4 : Nat) : Int) + ((bc pD 4 : Nat) : Int) + ((bc pE 4 : Nat) : Int)) ∧ va_P (dC, dI) vwCl [] t.heap ∧ va_K (dC, dI) vwCl [(cI, .int), (cZ, .boolean)] t ∧ va_D (va_A [(h0, .inr (9, [.ref x_riders, .ref x_road, .ref x_tape, .ref x_book, .ref x_reader, .ref x_latest, .ref x_log, .ref x_trial, .ref x_stages, .int 0, .int 0, .int 0])), (x_tape, .inr (8, [.int 0, .ref x_ta_bytes])), (x_ta_bytes, .inl (cI, 100, .inl (fun _ => 0)))] sz) []) (va_A [(h0, .inr (9, [.ref x_riders, .ref x_road, .ref x_tape, .ref x_book, .ref x_reader, .ref x_latest, .ref x_log, .ref x_trial, .ref x_stages, .int 0, .int 0, .int 0])), (x_tape, .inr (8, [.int 0, .ref x_ta_bytes])), (x_ta_bytes, .inl (cI, 100, .inl (fun _ => 0)))] sz)) 0 0 (va_A [(h0, .inr (9, [.ref x_riders, .ref x_road, .ref x_tape, .ref x_book, .ref x_reader, .ref x_latest, .ref x_log, .ref x_trial, .ref x_stages, .int 0, .int 0, .int 0])), (x_tape, .inr (8, [.int 0, .ref x_ta_bytes])), (x_ta_bytes, .inl (cI, 100, .inl (fun _ => 0)))] sz) := by
  refine Met.ofW (cc := cX9_feed) (maxL := 7) (ret := (some .int)) (by decide) rfl ?_
  intro p e s m args below meth c s₁ B hml hv
  obtain ⟨rfl, hsz, hP, hK, hD0⟩ := hv
  have hx := B.exec
  have hb := B.bytes
  have hr := B.returns
  have hts := atoms_spec (ws := Cond.code yX9_feed cX9_feed 7 (some .int) :: lw_good) B.pre
  have hown : s.vm.findClass RX9 = some m.cls := findClass_of_methodNamed B.named
  have hlocks := B.notSynchronized
  have hiX8 : ∀ w ∈ wsX80, w ∈ (Cond.code yX9_feed cX9_feed 7 (some .int) :: lw_good) := fun w h => List.mem_cons_of_mem _ (zi_X8 w h)
  have hiX9 : ∀ w ∈ wsX90, w ∈ (Cond.code yX9_feed cX9_feed 7 (some .int) :: lw_good) := fun w h => List.mem_cons_of_mem _ (zi_X9 w h)
  have hw0 := hts (.fieldLink RX9 26 "BunchRace" "tape" "LBunchRace$Tape;") (List.mem_cons_of_mem _ zw_336)
  have hw1 := hts (.initialized RX8) (List.mem_cons_of_mem _ zw_51)
  have hw2 := hts (.methodLink RX9 102 yX8_bytesIn) (List.mem_cons_of_mem _ zw_426)
  have hw3 := hts (.instanceMethod yX8_bytesIn) (List.mem_cons_of_mem _ zw_427)
  have hw4 := hts (.selects RX8 yX8_bytesIn yX8_bytesIn) (List.mem_cons_of_mem _ zw_428)
  have hw5 := hts (.fieldLink RX9 105 "BunchRace$Tape" "length" "I") (List.mem_cons_of_mem _ zw_143)
  have hw6 := hts (.methodLink RX9 108 yX8_append) (List.mem_cons_of_mem _ zw_434)
  have hw7 := hts (.instanceMethod yX8_append) (List.mem_cons_of_mem _ zw_435)
  have hw8 := hts (.selects RX8 yX8_append yX8_append) (List.mem_cons_of_mem _ zw_436)
  subst hsz
  have hD := hD0.self (sz := s.heap.size)
  generalize hAe : va_A [(h0, .inr (9, [.ref x_riders, .ref x_road, .ref x_tape, .ref x_book, .ref x_reader, .ref x_latest, .ref x_log, .ref x_trial, .ref x_stages, .int 0, .int 0, .int 0])), (x_tape, .inr (8, [.int 0, .ref x_ta_bytes])), (x_ta_bytes, .inl (cI, 100, .inl (fun _ => 0)))] s.heap.size = A at hD ⊢
  have hA : ∀ q : Nat, s.heap.size ≤ q → A q := fun q h => by rw [← hAe]; exact Or.inr h
  have hS : va_S A s.heap s.heap [] := va_S.rf
  have hP : va_P (dC, dI) vwCl [(h0, .inr (9, [.ref x_riders, .ref x_road, .ref x_tape, .ref x_book, .ref x_reader, .ref x_latest, .ref x_log, .ref x_trial, .ref x_stages, .int 0, .int 0, .int 0])), (x_tape, .inr (8, [.int 0, .ref x_ta_bytes])), (x_ta_bytes, .inl (cI, 100, .inl (fun _ => 0)))] s.heap := hP
  have hl := lv_entry ([.ref h0, .int pA, .int pB, .int pC, .int pD, .int pE]) (n := 7) (Nat.le_of_ble_eq_true rfl)
  rw [lg_entry_eq]
  generalize (lg_sl ([.ref h0, .int pA, .int pB, .int pC, .int pD, .int pE]) ++ List.replicate (7 - (lg_sl ([.ref h0, .int pA, .int pB, .int pC, .int pD, .int pE])).length) Slot.unset).toArray = ls at hl ⊢
  have hl : lv_has ls 7 [(0, .ref h0), (1, .int pA), (2, .int pB), (3, .int pC), (4, .int pD), (5, .int pE)] := hl
  have hlA := bc_le pA 4
  have hlB := bc_le pB 4
  have hlC := bc_le pC 4
  have hlD := bc_le pD 4
  have hlE := bc_le pE 4
  refine lv_aload_n hx hb dX9_feed_0 rfl (lv_at hl 0 rfl) ?_
  refine va_get (D := (dC, dI)) (ci := 9) (v := .ref x_tape) (C := RX9) (T := TX9) (N := 12) hx hb hts hiX9 hown hK hP 0 rfl rfl 2 (by decide) hw0 (fun _ h9 => h9) rfl dX9_feed_1 ?_
  refine lv_iload_n hx hb dX9_feed_4 rfl (lv_at hl 1 rfl) ?_
  have hPc := hP.sub (ws' := [(x_tape, .inr (8, [.int 0, .ref x_ta_bytes]))]) [1] rfl
  have hDc := hD.sub (ws' := [(x_tape, .inr (8, [.int 0, .ref x_ta_bytes]))]) [1] (by decide) rfl
  have hFc := va_free (wc := [(x_tape, .inr (8, [.int 0, .ref x_ta_bytes]))]) hD hS hA [1] rfl
  refine va_calli (va_runV (As := [.int pA]) (rest := []) ⟨hx, hb, hml, hown, hts⟩ (c_X8_bytesIn l dC dI cI cZ (s.heap).size x_tape x_ta_bytes pA pA_i pA_h 0 (0:Int) (by decide)) ⟨callB_of 1 hts (zz_good zw_429) rfl rfl rfl hw1 hw2 (by decide +kernel) ⟨Nat.le_of_ble_eq_true rfl, Nat.le_of_ble_eq_true rfl⟩, hw3, hw4⟩ ⟨fun a U g mk q => by obtain ⟨q0, q1, qP, qK, qD⟩ := q; exact ⟨q0, q1, qP, va_K.moved (u := U) (U := U.calling g mk a) (Vm.Alike.refl U.vm) qK, qD⟩, va_recv hK hPc (ci := 8) (q0 := 0) rfl rfl, fun U hU hW => ⟨rfl, by rw [hU], by rw [hU]; exact hPc, va_K.moved hW.alike hK, hDc.weaken (fun _ _ _ _ => trivial)⟩⟩ rfl rfl hl.1 rfl (lv_room (Nat.le_of_ble_eq_true rfl)) dX9_feed_5 ⟨Nat.le_of_ble_eq_true rfl, Nat.le_of_ble_eq_true rfl⟩) hS (fun q _ h => hFc q h) hFc (fun r_1 u t H1 locs ht hvm hpost hB hz1 hk1 hS => ?_)
  subst hpost
  obtain ⟨hf_2, hP1, hK1, hD1⟩ := hB
  rw [ht] at hP1
  obtain ⟨hP, hD⟩ := va_join (wr := [(h0, .inr (9, [.ref x_riders, .ref x_road, .ref x_tape, .ref x_book, .ref x_reader, .ref x_latest, .ref x_log, .ref x_trial, .ref x_stages, .int 0, .int 0, .int 0])), (x_ta_bytes, .inl (cI, 100, .inl (fun _ => 0)))]) (w1 := [(x_tape, .inr (8, [.int 0, .ref x_ta_bytes]))]) hP hD [1] [0, 2] rfl rfl (by decide) (by decide) hk1 hFc hP1 hD1
  generalize H1 = H at hP hS ⊢
  have hP : va_P (dC, dI) vwCl [(h0, .inr (9, [.ref x_riders, .ref x_road, .ref x_tape, .ref x_book, .ref x_reader, .ref x_latest, .ref x_log, .ref x_trial, .ref x_stages, .int 0, .int 0, .int 0])), (x_ta_bytes, .inl (cI, 100, .inl (fun _ => 0))), (x_tape, .inr (8, [.int 0, .ref x_ta_bytes]))] H := hP
  have hD : va_D A [(h0, .inr (9, [.ref x_riders, .ref x_road, .ref x_tape, .ref x_book, .ref x_reader, .ref x_latest, .ref x_log, .ref x_trial, .ref x_stages, .int 0, .int 0, .int 0])), (x_ta_bytes, .inl (cI, 100, .inl (fun _ => 0))), (x_tape, .inr (8, [.int 0, .ref x_ta_bytes]))] := hD
  have hf_2 : r_1.toInt = ((bc pA 4 : Nat) : Int) := hf_2
  refine lv_aload_n hx hb dX9_feed_8 rfl (lv_at hl 0 rfl) ?_
  refine va_get (D := (dC, dI)) (ci := 9) (v := .ref x_tape) (C := RX9) (T := TX9) (N := 12) hx hb hts hiX9 hown hK hP 0 rfl rfl 2 (by decide) hw0 (fun _ h9 => h9) rfl dX9_feed_9 ?_
  refine lv_iload_n hx hb dX9_feed_12 rfl (lv_at hl 2 rfl) ?_
  have hPc := hP.sub (ws' := [(x_tape, .inr (8, [.int 0, .ref x_ta_bytes]))]) [2] rfl
  have hDc := hD.sub (ws' := [(x_tape, .inr (8, [.int 0, .ref x_ta_bytes]))]) [2] (by decide) rfl
  have hFc := va_free (wc := [(x_tape, .inr (8, [.int 0, .ref x_ta_bytes]))]) hD hS hA [2] rfl
  refine va_calli (va_runV (As := [.int pB]) (rest := [.int r_1]) ⟨hx, hb, hml, hown, hts⟩ (c_X8_bytesIn l dC dI cI cZ (H).size x_tape x_ta_bytes pB pB_i pB_h 0 (0:Int) (by decide)) ⟨callB_of 1 hts (zz_good zw_429) rfl rfl rfl hw1 hw2 (by decide +kernel) ⟨Nat.le_of_ble_eq_true rfl, Nat.le_of_ble_eq_true rfl⟩, hw3, hw4⟩ ⟨fun a U g mk q => by obtain ⟨q0, q1, qP, qK, qD⟩ := q; exact ⟨q0, q1, qP, va_K.moved (u := U) (U := U.calling g mk a) (Vm.Alike.refl U.vm) qK, qD⟩, va_recv hK hPc (ci := 8) (q0 := 0) rfl rfl, fun U hU hW => ⟨rfl, by rw [hU], by rw [hU]; exact hPc, va_K.moved hW.alike hK, hDc.weaken (fun _ _ _ _ => trivial)⟩⟩ rfl rfl hl.1 rfl (lv_room (Nat.le_of_ble_eq_true rfl)) dX9_feed_13 ⟨Nat.le_of_ble_eq_true rfl, Nat.le_of_ble_eq_true rfl⟩) hS (fun q _ h => hFc q h) hFc (fun r_3 u t H1 locs ht hvm hpost hB hz1 hk1 hS => ?_)
  subst hpost
  obtain ⟨hf_4, hP1, hK1, hD1⟩ := hB
  rw [ht] at hP1
  obtain ⟨hP, hD⟩ := va_join (wr := [(h0, .inr (9, [.ref x_riders, .ref x_road, .ref x_tape, .ref x_book, .ref x_reader, .ref x_latest, .ref x_log, .ref x_trial, .ref x_stages, .int 0, .int 0, .int 0])), (x_ta_bytes, .inl (cI, 100, .inl (fun _ => 0)))]) (w1 := [(x_tape, .inr (8, [.int 0, .ref x_ta_bytes]))]) hP hD [2] [0, 1] rfl rfl (by decide) (by decide) hk1 hFc hP1 hD1
  generalize H1 = H at hP hS ⊢
  have hP : va_P (dC, dI) vwCl [(h0, .inr (9, [.ref x_riders, .ref x_road, .ref x_tape, .ref x_book, .ref x_reader, .ref x_latest, .ref x_log, .ref x_trial, .ref x_stages, .int 0, .int 0, .int 0])), (x_ta_bytes, .inl (cI, 100, .inl (fun _ => 0))), (x_tape, .inr (8, [.int 0, .ref x_ta_bytes]))] H := hP
  have hD : va_D A [(h0, .inr (9, [.ref x_riders, .ref x_road, .ref x_tape, .ref x_book, .ref x_reader, .ref x_latest, .ref x_log, .ref x_trial, .ref x_stages, .int 0, .int 0, .int 0])), (x_ta_bytes, .inl (cI, 100, .inl (fun _ => 0))), (x_tape, .inr (8, [.int 0, .ref x_ta_bytes]))] := hD
  have hf_4 : r_3.toInt = ((bc pB 4 : Nat) : Int) := hf_4
  refine lv_iadd hx hb dX9_feed_16 ?_
  refine lv_topi (fun v_5 ev_5 => ?_)
  have hv_5 : v_5.toInt = ((r_1).toInt + (r_3).toInt) := by rw [ev_5]; exact zz_addI rfl rfl (by omega) (by omega)
  refine lv_aload_n hx hb dX9_feed_17 rfl (lv_at hl 0 rfl) ?_
  refine va_get (D := (dC, dI)) (ci := 9) (v := .ref x_tape) (C := RX9) (T := TX9) (N := 12) hx hb hts hiX9 hown hK hP 0 rfl rfl 2 (by decide) hw0 (fun _ h9 => h9) rfl dX9_feed_18 ?_
  refine lv_iload_n hx hb dX9_feed_21 rfl (lv_at hl 3 rfl) ?_
  have hPc := hP.sub (ws' := [(x_tape, .inr (8, [.int 0, .ref x_ta_bytes]))]) [2] rfl
  have hDc := hD.sub (ws' := [(x_tape, .inr (8, [.int 0, .ref x_ta_bytes]))]) [2] (by decide) rfl
  have hFc := va_free (wc := [(x_tape, .inr (8, [.int 0, .ref x_ta_bytes]))]) hD hS hA [2] rfl
  refine va_calli (va_runV (As := [.int pC]) (rest := [.int v_5]) ⟨hx, hb, hml, hown, hts⟩ (c_X8_bytesIn l dC dI cI cZ (H).size x_tape x_ta_bytes pC pC_i pC_h 0 (0:Int) (by decide)) ⟨callB_of 1 hts (zz_good zw_429) rfl rfl rfl hw1 hw2 (by decide +kernel) ⟨Nat.le_of_ble_eq_true rfl, Nat.le_of_ble_eq_true rfl⟩, hw3, hw4⟩ ⟨fun a U g mk q => by obtain ⟨q0, q1, qP, qK, qD⟩ := q; exact ⟨q0, q1, qP, va_K.moved (u := U) (U := U.calling g mk a) (Vm.Alike.refl U.vm) qK, qD⟩, va_recv hK hPc (ci := 8) (q0 := 0) rfl rfl, fun U hU hW => ⟨rfl, by rw [hU], by rw [hU]; exact hPc, va_K.moved hW.alike hK, hDc.weaken (fun _ _ _ _ => trivial)⟩⟩ rfl rfl hl.1 rfl (lv_room (Nat.le_of_ble_eq_true rfl)) dX9_feed_22 ⟨Nat.le_of_ble_eq_true rfl, Nat.le_of_ble_eq_true rfl⟩) hS (fun q _ h => hFc q h) hFc (fun r_6 u t H1 locs ht hvm hpost hB hz1 hk1 hS => ?_)
  subst hpost
  obtain ⟨hf_7, hP1, hK1, hD1⟩ := hB
  rw [ht] at hP1
  obtain ⟨hP, hD⟩ := va_join (wr := [(h0, .inr (9, [.ref x_riders, .ref x_road, .ref x_tape, .ref x_book, .ref x_reader, .ref x_latest, .ref x_log, .ref x_trial, .ref x_stages, .int 0, .int 0, .int 0])), (x_ta_bytes, .inl (cI, 100, .inl (fun _ => 0)))]) (w1 := [(x_tape, .inr (8, [.int 0, .ref x_ta_bytes]))]) hP hD [2] [0, 1] rfl rfl (by decide) (by decide) hk1 hFc hP1 hD1
  generalize H1 = H at hP hS ⊢
  have hP : va_P (dC, dI) vwCl [(h0, .inr (9, [.ref x_riders, .ref x_road, .ref x_tape, .ref x_book, .ref x_reader, .ref x_latest, .ref x_log, .ref x_trial, .ref x_stages, .int 0, .int 0, .int 0])), (x_ta_bytes, .inl (cI, 100, .inl (fun _ => 0))), (x_tape, .inr (8, [.int 0, .ref x_ta_bytes]))] H := hP
  have hD : va_D A [(h0, .inr (9, [.ref x_riders, .ref x_road, .ref x_tape, .ref x_book, .ref x_reader, .ref x_latest, .ref x_log, .ref x_trial, .ref x_stages, .int 0, .int 0, .int 0])), (x_ta_bytes, .inl (cI, 100, .inl (fun _ => 0))), (x_tape, .inr (8, [.int 0, .ref x_ta_bytes]))] := hD
  have hf_7 : r_6.toInt = ((bc pC 4 : Nat) : Int) := hf_7
  refine lv_iadd hx hb dX9_feed_25 ?_
  refine lv_topi (fun v_8 ev_8 => ?_)
  have hv_8 : v_8.toInt = (((r_1).toInt + (r_3).toInt) + (r_6).toInt) := by rw [ev_8]; exact zz_addI hv_5 rfl (by omega) (by omega)
  refine lv_aload_n hx hb dX9_feed_26 rfl (lv_at hl 0 rfl) ?_
  refine va_get (D := (dC, dI)) (ci := 9) (v := .ref x_tape) (C := RX9) (T := TX9) (N := 12) hx hb hts hiX9 hown hK hP 0 rfl rfl 2 (by decide) hw0 (fun _ h9 => h9) rfl dX9_feed_27 ?_
  refine lv_iload hx hb dX9_feed_30 (lv_at hl 4 rfl) ?_
  have hPc := hP.sub (ws' := [(x_tape, .inr (8, [.int 0, .ref x_ta_bytes]))]) [2] rfl
  have hDc := hD.sub (ws' := [(x_tape, .inr (8, [.int 0, .ref x_ta_bytes]))]) [2] (by decide) rfl
  have hFc := va_free (wc := [(x_tape, .inr (8, [.int 0, .ref x_ta_bytes]))]) hD hS hA [2] rfl
  refine va_calli (va_runV (As := [.int pD]) (rest := [.int v_8]) ⟨hx, hb, hml, hown, hts⟩ (c_X8_bytesIn l dC dI cI cZ (H).size x_tape x_ta_bytes pD pD_i pD_h 0 (0:Int) (by decide)) ⟨callB_of 1 hts (zz_good zw_429) rfl rfl rfl hw1 hw2 (by decide +kernel) ⟨Nat.le_of_ble_eq_true rfl, Nat.le_of_ble_eq_true rfl⟩, hw3, hw4⟩ ⟨fun a U g mk q => by obtain ⟨q0, q1, qP, qK, qD⟩ := q; exact ⟨q0, q1, qP, va_K.moved (u := U) (U := U.calling g mk a) (Vm.Alike.refl U.vm) qK, qD⟩, va_recv hK hPc (ci := 8) (q0 := 0) rfl rfl, fun U hU hW => ⟨rfl, by rw [hU], by rw [hU]; exact hPc, va_K.moved hW.alike hK, hDc.weaken (fun _ _ _ _ => trivial)⟩⟩ rfl rfl hl.1 rfl (lv_room (Nat.le_of_ble_eq_true rfl)) dX9_feed_32 ⟨Nat.le_of_ble_eq_true rfl, Nat.le_of_ble_eq_true rfl⟩) hS (fun q _ h => hFc q h) hFc (fun r_9 u t H1 locs ht hvm hpost hB hz1 hk1 hS => ?_)
  subst hpost
  obtain ⟨hf_10, hP1, hK1, hD1⟩ := hB
  rw [ht] at hP1
  obtain ⟨hP, hD⟩ := va_join (wr := [(h0, .inr (9, [.ref x_riders, .ref x_road, .ref x_tape, .ref x_book, .ref x_reader, .ref x_latest, .ref x_log, .ref x_trial, .ref x_stages, .int 0, .int 0, .int 0])), (x_ta_bytes, .inl (cI, 100, .inl (fun _ => 0)))]) (w1 := [(x_tape, .inr (8, [.int 0, .ref x_ta_bytes]))]) hP hD [2] [0, 1] rfl rfl (by decide) (by decide) hk1 hFc hP1 hD1
  generalize H1 = H at hP hS ⊢
  have hP : va_P (dC, dI) vwCl [(h0, .inr (9, [.ref x_riders, .ref x_road, .ref x_tape, .ref x_book, .ref x_reader, .ref x_latest, .ref x_log, .ref x_trial, .ref x_stages, .int 0, .int 0, .int 0])), (x_ta_bytes, .inl (cI, 100, .inl (fun _ => 0))), (x_tape, .inr (8, [.int 0, .ref x_ta_bytes]))] H := hP
  have hD : va_D A [(h0, .inr (9, [.ref x_riders, .ref x_road, .ref x_tape, .ref x_book, .ref x_reader, .ref x_latest, .ref x_log, .ref x_trial, .ref x_stages, .int 0, .int 0, .int 0])), (x_ta_bytes, .inl (cI, 100, .inl (fun _ => 0))), (x_tape, .inr (8, [.int 0, .ref x_ta_bytes]))] := hD
  have hf_10 : r_9.toInt = ((bc pD 4 : Nat) : Int) := hf_10
  refine lv_iadd hx hb dX9_feed_35 ?_
  refine lv_topi (fun v_11 ev_11 => ?_)
  have hv_11 : v_11.toInt = ((((r_1).toInt + (r_3).toInt) + (r_6).toInt) + (r_9).toInt) := by rw [ev_11]; exact zz_addI hv_8 rfl (by omega) (by omega)
  refine lv_aload_n hx hb dX9_feed_36 rfl (lv_at hl 0 rfl) ?_
  refine va_get (D := (dC, dI)) (ci := 9) (v := .ref x_tape) (C := RX9) (T := TX9) (N := 12) hx hb hts hiX9 hown hK hP 0 rfl rfl 2 (by decide) hw0 (fun _ h9 => h9) rfl dX9_feed_37 ?_
  refine lv_iload hx hb dX9_feed_40 (lv_at hl 5 rfl) ?_
  have hPc := hP.sub (ws' := [(x_tape, .inr (8, [.int 0, .ref x_ta_bytes]))]) [2] rfl
  have hDc := hD.sub (ws' := [(x_tape, .inr (8, [.int 0, .ref x_ta_bytes]))]) [2] (by decide) rfl
  have hFc := va_free (wc := [(x_tape, .inr (8, [.int 0, .ref x_ta_bytes]))]) hD hS hA [2] rfl
  refine va_calli (va_runV (As := [.int pE]) (rest := [.int v_11]) ⟨hx, hb, hml, hown, hts⟩ (c_X8_bytesIn l dC dI cI cZ (H).size x_tape x_ta_bytes pE pE_i pE_h 0 (0:Int) (by decide)) ⟨callB_of 1 hts (zz_good zw_429) rfl rfl rfl hw1 hw2 (by decide +kernel) ⟨Nat.le_of_ble_eq_true rfl, Nat.le_of_ble_eq_true rfl⟩, hw3, hw4⟩ ⟨fun a U g mk q => by obtain ⟨q0, q1, qP, qK, qD⟩ := q; exact ⟨q0, q1, qP, va_K.moved (u := U) (U := U.calling g mk a) (Vm.Alike.refl U.vm) qK, qD⟩, va_recv hK hPc (ci := 8) (q0 := 0) rfl rfl, fun U hU hW => ⟨rfl, by rw [hU], by rw [hU]; exact hPc, va_K.moved hW.alike hK, hDc.weaken (fun _ _ _ _ => trivial)⟩⟩ rfl rfl hl.1 rfl (lv_room (Nat.le_of_ble_eq_true rfl)) dX9_feed_42 ⟨Nat.le_of_ble_eq_true rfl, Nat.le_of_ble_eq_true rfl⟩) hS (fun q _ h => hFc q h) hFc (fun r_12 u t H1 locs ht hvm hpost hB hz1 hk1 hS => ?_)
  subst hpost
  obtain ⟨hf_13, hP1, hK1, hD1⟩ := hB
  rw [ht] at hP1
  obtain ⟨hP, hD⟩ := va_join (wr := [(h0, .inr (9, [.ref x_riders, .ref x_road, .ref x_tape, .ref x_book, .ref x_reader, .ref x_latest, .ref x_log, .ref x_trial, .ref x_stages, .int 0, .int 0, .int 0])), (x_ta_bytes, .inl (cI, 100, .inl (fun _ => 0)))]) (w1 := [(x_tape, .inr (8, [.int 0, .ref x_ta_bytes]))]) hP hD [2] [0, 1] rfl rfl (by decide) (by decide) hk1 hFc hP1 hD1
  generalize H1 = H at hP hS ⊢
  have hP : va_P (dC, dI) vwCl [(h0, .inr (9, [.ref x_riders, .ref x_road, .ref x_tape, .ref x_book, .ref x_reader, .ref x_latest, .ref x_log, .ref x_trial, .ref x_stages, .int 0, .int 0, .int 0])), (x_ta_bytes, .inl (cI, 100, .inl (fun _ => 0))), (x_tape, .inr (8, [.int 0, .ref x_ta_bytes]))] H := hP
  have hD : va_D A [(h0, .inr (9, [.ref x_riders, .ref x_road, .ref x_tape, .ref x_book, .ref x_reader, .ref x_latest, .ref x_log, .ref x_trial, .ref x_stages, .int 0, .int 0, .int 0])), (x_ta_bytes, .inl (cI, 100, .inl (fun _ => 0))), (x_tape, .inr (8, [.int 0, .ref x_ta_bytes]))] := hD
  have hf_13 : r_12.toInt = ((bc pE 4 : Nat) : Int) := hf_13
  refine lv_iadd hx hb dX9_feed_45 ?_
  refine lv_topi (fun v_14 ev_14 => ?_)
  have hv_14 : v_14.toInt = (((((r_1).toInt + (r_3).toInt) + (r_6).toInt) + (r_9).toInt) + (r_12).toInt) := by rw [ev_14]; exact zz_addI hv_11 rfl (by omega) (by omega)
  refine lv_istore (lv' := [(6, .int v_14), (0, .ref h0), (1, .int pA), (2, .int pB), (3, .int pC), (4, .int pD), (5, .int pE)]) hx hb dX9_feed_46 hl (by decide) rfl (fun ls hl => ?_)
  refine lv_aload_n hx hb dX9_feed_48 rfl (lv_at hl 1 rfl) ?_
  refine va_get (D := (dC, dI)) (ci := 9) (v := .ref x_tape) (C := RX9) (T := TX9) (N := 12) hx hb hts hiX9 hown hK hP 0 rfl rfl 2 (by decide) hw0 (fun _ h9 => h9) rfl dX9_feed_49 ?_
  refine va_get (D := (dC, dI)) (ci := 8) (v := .int 0) (C := RX8) (T := TX8) (N := 2) hx hb hts hiX8 hown hK hP 2 rfl rfl 0 (by decide) hw5 (fun _ h9 => h9) rfl dX9_feed_52 ?_
  refine lv_iload hx hb dX9_feed_55 (lv_at hl 0 rfl) ?_
  refine lv_iadd hx hb dX9_feed_57 ?_
  refine lv_topi (fun v_15 ev_15 => ?_)
  have hv_15 : v_15.toInt = ((0:Int) + (((((r_1).toInt + (r_3).toInt) + (r_6).toInt) + (r_9).toInt) + (r_12).toInt)) := by rw [ev_15]; exact zz_addI (by decide) hv_14 (by omega) (by omega)
  refine lv_bipush (v := 100) hx hb dX9_feed_58 (by decide) ?_
  refine lv_icmp_le (tgt := 65) hx hb dX9_feed_60 (by decide) (fun c_16 => ?_) (fun c_16 => ?_)
  ·
    have c_16 : ((0:Int) + (((((r_1).toInt + (r_3).toInt) + (r_6).toInt) + (r_9).toInt) + (r_12).toInt)) ≤ (100:Int) := zz_le hv_15 (by decide) c_16
    refine lv_aload_n hx hb dX9_feed_65 rfl (lv_at hl 1 rfl) ?_
    refine va_get (D := (dC, dI)) (ci := 9) (v := .ref x_tape) (C := RX9) (T := TX9) (N := 12) hx hb hts hiX9 hown hK hP 0 rfl rfl 2 (by decide) hw0 (fun _ h9 => h9) rfl dX9_feed_66 ?_
    refine lv_iload_n hx hb dX9_feed_69 rfl (lv_at hl 2 rfl) ?_
    have hPc := hP.sub (ws' := [(x_tape, .inr (8, [.int 0, .ref x_ta_bytes])), (x_ta_bytes, .inl (cI, 100, .inl (fun _ => 0)))]) [2, 1] rfl
    have hDc := hD.sub (ws' := [(x_tape, .inr (8, [.int 0, .ref x_ta_bytes])), (x_ta_bytes, .inl (cI, 100, .inl (fun _ => 0)))]) [2, 1] (by decide) rfl
    have hFc := va_free (wc := [(x_tape, .inr (8, [.int 0, .ref x_ta_bytes])), (x_ta_bytes, .inl (cI, 100, .inl (fun _ => 0)))]) hD hS hA [2, 1] rfl
    refine va_callv (va_runV (As := [.int pA]) (rest := []) ⟨hx, hb, hml, hown, hts⟩ (c_X8_append l dC dI cI cZ (H).size x_tape x_ta_bytes (fun _ => 0) pA pA_i pA_h 0 (0:Int) (by decide) (by omega) (by omega)) ⟨callB_of 1 hts (zz_good zw_437) rfl rfl rfl hw1 hw6 (by decide +kernel) ⟨Nat.le_of_ble_eq_true rfl, Nat.le_of_ble_eq_true rfl⟩, hw7, hw8⟩ ⟨fun a U g mk q => by obtain ⟨q0, q1, qP, qK, qD⟩ := q; exact ⟨q0, q1, qP, va_K.moved (u := U) (U := U.calling g mk a) (Vm.Alike.refl U.vm) qK, qD⟩, va_recv hK hPc (ci := 8) (q0 := 0) rfl rfl, fun U hU hW => ⟨rfl, by rw [hU], by rw [hU]; exact hPc, va_K.moved hW.alike hK, hDc.weaken (fun _ _ _ _ => trivial)⟩⟩ rfl rfl hl.1 rfl (lv_room (Nat.le_of_ble_eq_true rfl)) dX9_feed_70 ⟨Nat.le_of_ble_eq_true rfl, Nat.le_of_ble_eq_true rfl⟩) hS (fun q _ h => hFc q h) hFc (fun u t H1 locs ht hvm hpost hB hz1 hk1 hS => ?_)
    obtain ⟨pL2_17, pf2_18, hf_19, hP1, hK1, hD1⟩ := hB
    rw [ht] at hP1
    obtain ⟨hP, hD⟩ := va_join (wr := [(h0, .inr (9, [.ref x_riders, .ref x_road, .ref x_tape, .ref x_book, .ref x_reader, .ref x_latest, .ref x_log, .ref x_trial, .ref x_stages, .int 0, .int 0, .int 0]))]) (w1 := [(x_tape, .inr (8, [.int pL2_17, .ref x_ta_bytes])), (x_ta_bytes, .inl (cI, 100, .inl pf2_18))]) hP hD [2, 1] [0] rfl rfl (by decide) (by decide) hk1 hFc hP1 hD1
    generalize H1 = H at hP hS ⊢
    have hP : va_P (dC, dI) vwCl [(h0, .inr (9, [.ref x_riders, .ref x_road, .ref x_tape, .ref x_book, .ref x_reader, .ref x_latest, .ref x_log, .ref x_trial, .ref x_stages, .int 0, .int 0, .int 0])), (x_tape, .inr (8, [.int pL2_17, .ref x_ta_bytes])), (x_ta_bytes, .inl (cI, 100, .inl pf2_18))] H := hP
    have hD : va_D A [(h0, .inr (9, [.ref x_riders, .ref x_road, .ref x_tape, .ref x_book, .ref x_reader, .ref x_latest, .ref x_log, .ref x_trial, .ref x_stages, .int 0, .int 0, .int 0])), (x_tape, .inr (8, [.int pL2_17, .ref x_ta_bytes])), (x_ta_bytes, .inl (cI, 100, .inl pf2_18))] := hD
    have hf_19 : pL2_17.toInt = (0:Int) + ((bc pA 4 : Nat) : Int) := hf_19
    refine lv_aload_n hx hb dX9_feed_73 rfl (lv_at hl 1 rfl) ?_
    refine va_get (D := (dC, dI)) (ci := 9) (v := .ref x_tape) (C := RX9) (T := TX9) (N := 12) hx hb hts hiX9 hown hK hP 0 rfl rfl 2 (by decide) hw0 (fun _ h9 => h9) rfl dX9_feed_74 ?_
    refine lv_iload_n hx hb dX9_feed_77 rfl (lv_at hl 3 rfl) ?_
    have hPc := hP.sub (ws' := [(x_tape, .inr (8, [.int pL2_17, .ref x_ta_bytes])), (x_ta_bytes, .inl (cI, 100, .inl pf2_18))]) [1, 2] rfl
    have hDc := hD.sub (ws' := [(x_tape, .inr (8, [.int pL2_17, .ref x_ta_bytes])), (x_ta_bytes, .inl (cI, 100, .inl pf2_18))]) [1, 2] (by decide) rfl
    have hFc := va_free (wc := [(x_tape, .inr (8, [.int pL2_17, .ref x_ta_bytes])), (x_ta_bytes, .inl (cI, 100, .inl pf2_18))]) hD hS hA [1, 2] rfl
    refine va_callv (va_runV (As := [.int pB]) (rest := []) ⟨hx, hb, hml, hown, hts⟩ (c_X8_append l dC dI cI cZ (H).size x_tape x_ta_bytes pf2_18 pB pB_i pB_h pL2_17 ((pL2_17).toInt) rfl (by omega) (by omega)) ⟨callB_of 1 hts (zz_good zw_437) rfl rfl rfl hw1 hw6 (by decide +kernel) ⟨Nat.le_of_ble_eq_true rfl, Nat.le_of_ble_eq_true rfl⟩, hw7, hw8⟩ ⟨fun a U g mk q => by obtain ⟨q0, q1, qP, qK, qD⟩ := q; exact ⟨q0, q1, qP, va_K.moved (u := U) (U := U.calling g mk a) (Vm.Alike.refl U.vm) qK, qD⟩, va_recv hK hPc (ci := 8) (q0 := 0) rfl rfl, fun U hU hW => ⟨rfl, by rw [hU], by rw [hU]; exact hPc, va_K.moved hW.alike hK, hDc.weaken (fun _ _ _ _ => trivial)⟩⟩ rfl rfl hl.1 rfl (lv_room (Nat.le_of_ble_eq_true rfl)) dX9_feed_78 ⟨Nat.le_of_ble_eq_true rfl, Nat.le_of_ble_eq_true rfl⟩) hS (fun q _ h => hFc q h) hFc (fun u t H1 locs ht hvm hpost hB hz1 hk1 hS => ?_)
    obtain ⟨pL2_20, pf2_21, hf_22, hP1, hK1, hD1⟩ := hB
    rw [ht] at hP1
    obtain ⟨hP, hD⟩ := va_join (wr := [(h0, .inr (9, [.ref x_riders, .ref x_road, .ref x_tape, .ref x_book, .ref x_reader, .ref x_latest, .ref x_log, .ref x_trial, .ref x_stages, .int 0, .int 0, .int 0]))]) (w1 := [(x_tape, .inr (8, [.int pL2_20, .ref x_ta_bytes])), (x_ta_bytes, .inl (cI, 100, .inl pf2_21))]) hP hD [1, 2] [0] rfl rfl (by decide) (by decide) hk1 hFc hP1 hD1
    generalize H1 = H at hP hS ⊢
    have hP : va_P (dC, dI) vwCl [(h0, .inr (9, [.ref x_riders, .ref x_road, .ref x_tape, .ref x_book, .ref x_reader, .ref x_latest, .ref x_log, .ref x_trial, .ref x_stages, .int 0, .int 0, .int 0])), (x_tape, .inr (8, [.int pL2_20, .ref x_ta_bytes])), (x_ta_bytes, .inl (cI, 100, .inl pf2_21))] H := hP
    have hD : va_D A [(h0, .inr (9, [.ref x_riders, .ref x_road, .ref x_tape, .ref x_book, .ref x_reader, .ref x_latest, .ref x_log, .ref x_trial, .ref x_stages, .int 0, .int 0, .int 0])), (x_tape, .inr (8, [.int pL2_20, .ref x_ta_bytes])), (x_ta_bytes, .inl (cI, 100, .inl pf2_21))] := hD
    have hf_22 : pL2_20.toInt = ((pL2_17).toInt) + ((bc pB 4 : Nat) : Int) := hf_22
    refine lv_aload_n hx hb dX9_feed_81 rfl (lv_at hl 1 rfl) ?_
    refine va_get (D := (dC, dI)) (ci := 9) (v := .ref x_tape) (C := RX9) (T := TX9) (N := 12) hx hb hts hiX9 hown hK hP 0 rfl rfl 2 (by decide) hw0 (fun _ h9 => h9) rfl dX9_feed_82 ?_
    refine lv_iload_n hx hb dX9_feed_85 rfl (lv_at hl 4 rfl) ?_
    have hPc := hP.sub (ws' := [(x_tape, .inr (8, [.int pL2_20, .ref x_ta_bytes])), (x_ta_bytes, .inl (cI, 100, .inl pf2_21))]) [1, 2] rfl
    have hDc := hD.sub (ws' := [(x_tape, .inr (8, [.int pL2_20, .ref x_ta_bytes])), (x_ta_bytes, .inl (cI, 100, .inl pf2_21))]) [1, 2] (by decide) rfl
    have hFc := va_free (wc := [(x_tape, .inr (8, [.int pL2_20, .ref x_ta_bytes])), (x_ta_bytes, .inl (cI, 100, .inl pf2_21))]) hD hS hA [1, 2] rfl
    refine va_callv (va_runV (As := [.int pC]) (rest := []) ⟨hx, hb, hml, hown, hts⟩ (c_X8_append l dC dI cI cZ (H).size x_tape x_ta_bytes pf2_21 pC pC_i pC_h pL2_20 ((pL2_20).toInt) rfl (by omega) (by omega)) ⟨callB_of 1 hts (zz_good zw_437) rfl rfl rfl hw1 hw6 (by decide +kernel) ⟨Nat.le_of_ble_eq_true rfl, Nat.le_of_ble_eq_true rfl⟩, hw7, hw8⟩ ⟨fun a U g mk q => by obtain ⟨q0, q1, qP, qK, qD⟩ := q; exact ⟨q0, q1, qP, va_K.moved (u := U) (U := U.calling g mk a) (Vm.Alike.refl U.vm) qK, qD⟩, va_recv hK hPc (ci := 8) (q0 := 0) rfl rfl, fun U hU hW => ⟨rfl, by rw [hU], by rw [hU]; exact hPc, va_K.moved hW.alike hK, hDc.weaken (fun _ _ _ _ => trivial)⟩⟩ rfl rfl hl.1 rfl (lv_room (Nat.le_of_ble_eq_true rfl)) dX9_feed_86 ⟨Nat.le_of_ble_eq_true rfl, Nat.le_of_ble_eq_true rfl⟩) hS (fun q _ h => hFc q h) hFc (fun u t H1 locs ht hvm hpost hB hz1 hk1 hS => ?_)
    obtain ⟨pL2_23, pf2_24, hf_25, hP1, hK1, hD1⟩ := hB
    rw [ht] at hP1
    obtain ⟨hP, hD⟩ := va_join (wr := [(h0, .inr (9, [.ref x_riders, .ref x_road, .ref x_tape, .ref x_book, .ref x_reader, .ref x_latest, .ref x_log, .ref x_trial, .ref x_stages, .int 0, .int 0, .int 0]))]) (w1 := [(x_tape, .inr (8, [.int pL2_23, .ref x_ta_bytes])), (x_ta_bytes, .inl (cI, 100, .inl pf2_24))]) hP hD [1, 2] [0] rfl rfl (by decide) (by decide) hk1 hFc hP1 hD1
    generalize H1 = H at hP hS ⊢
    have hP : va_P (dC, dI) vwCl [(h0, .inr (9, [.ref x_riders, .ref x_road, .ref x_tape, .ref x_book, .ref x_reader, .ref x_latest, .ref x_log, .ref x_trial, .ref x_stages, .int 0, .int 0, .int 0])), (x_tape, .inr (8, [.int pL2_23, .ref x_ta_bytes])), (x_ta_bytes, .inl (cI, 100, .inl pf2_24))] H := hP
    have hD : va_D A [(h0, .inr (9, [.ref x_riders, .ref x_road, .ref x_tape, .ref x_book, .ref x_reader, .ref x_latest, .ref x_log, .ref x_trial, .ref x_stages, .int 0, .int 0, .int 0])), (x_tape, .inr (8, [.int pL2_23, .ref x_ta_bytes])), (x_ta_bytes, .inl (cI, 100, .inl pf2_24))] := hD
    have hf_25 : pL2_23.toInt = ((pL2_20).toInt) + ((bc pC 4 : Nat) : Int) := hf_25
    refine lv_aload_n hx hb dX9_feed_89 rfl (lv_at hl 1 rfl) ?_
    refine va_get (D := (dC, dI)) (ci := 9) (v := .ref x_tape) (C := RX9) (T := TX9) (N := 12) hx hb hts hiX9 hown hK hP 0 rfl rfl 2 (by decide) hw0 (fun _ h9 => h9) rfl dX9_feed_90 ?_
    refine lv_iload hx hb dX9_feed_93 (lv_at hl 5 rfl) ?_
    have hPc := hP.sub (ws' := [(x_tape, .inr (8, [.int pL2_23, .ref x_ta_bytes])), (x_ta_bytes, .inl (cI, 100, .inl pf2_24))]) [1, 2] rfl
    have hDc := hD.sub (ws' := [(x_tape, .inr (8, [.int pL2_23, .ref x_ta_bytes])), (x_ta_bytes, .inl (cI, 100, .inl pf2_24))]) [1, 2] (by decide) rfl
    have hFc := va_free (wc := [(x_tape, .inr (8, [.int pL2_23, .ref x_ta_bytes])), (x_ta_bytes, .inl (cI, 100, .inl pf2_24))]) hD hS hA [1, 2] rfl
    refine va_callv (va_runV (As := [.int pD]) (rest := []) ⟨hx, hb, hml, hown, hts⟩ (c_X8_append l dC dI cI cZ (H).size x_tape x_ta_bytes pf2_24 pD pD_i pD_h pL2_23 ((pL2_23).toInt) rfl (by omega) (by omega)) ⟨callB_of 1 hts (zz_good zw_437) rfl rfl rfl hw1 hw6 (by decide +kernel) ⟨Nat.le_of_ble_eq_true rfl, Nat.le_of_ble_eq_true rfl⟩, hw7, hw8⟩ ⟨fun a U g mk q => by obtain ⟨q0, q1, qP, qK, qD⟩ := q; exact ⟨q0, q1, qP, va_K.moved (u := U) (U := U.calling g mk a) (Vm.Alike.refl U.vm) qK, qD⟩, va_recv hK hPc (ci := 8) (q0 := 0) rfl rfl, fun U hU hW => ⟨rfl, by rw [hU], by rw [hU]; exact hPc, va_K.moved hW.alike hK, hDc.weaken (fun _ _ _ _ => trivial)⟩⟩ rfl rfl hl.1 rfl (lv_room (Nat.le_of_ble_eq_true rfl)) dX9_feed_95 ⟨Nat.le_of_ble_eq_true rfl, Nat.le_of_ble_eq_true rfl⟩) hS (fun q _ h => hFc q h) hFc (fun u t H1 locs ht hvm hpost hB hz1 hk1 hS => ?_)
    obtain ⟨pL2_26, pf2_27, hf_28, hP1, hK1, hD1⟩ := hB
    rw [ht] at hP1
    obtain ⟨hP, hD⟩ := va_join (wr := [(h0, .inr (9, [.ref x_riders, .ref x_road, .ref x_tape, .ref x_book, .ref x_reader, .ref x_latest, .ref x_log, .ref x_trial, .ref x_stages, .int 0, .int 0, .int 0]))]) (w1 := [(x_tape, .inr (8, [.int pL2_26, .ref x_ta_bytes])), (x_ta_bytes, .inl (cI, 100, .inl pf2_27))]) hP hD [1, 2] [0] rfl rfl (by decide) (by decide) hk1 hFc hP1 hD1
    generalize H1 = H at hP hS ⊢
    have hP : va_P (dC, dI) vwCl [(h0, .inr (9, [.ref x_riders, .ref x_road, .ref x_tape, .ref x_book, .ref x_reader, .ref x_latest, .ref x_log, .ref x_trial, .ref x_stages, .int 0, .int 0, .int 0])), (x_tape, .inr (8, [.int pL2_26, .ref x_ta_bytes])), (x_ta_bytes, .inl (cI, 100, .inl pf2_27))] H := hP
    have hD : va_D A [(h0, .inr (9, [.ref x_riders, .ref x_road, .ref x_tape, .ref x_book, .ref x_reader, .ref x_latest, .ref x_log, .ref x_trial, .ref x_stages, .int 0, .int 0, .int 0])), (x_tape, .inr (8, [.int pL2_26, .ref x_ta_bytes])), (x_ta_bytes, .inl (cI, 100, .inl pf2_27))] := hD
    have hf_28 : pL2_26.toInt = ((pL2_23).toInt) + ((bc pD 4 : Nat) : Int) := hf_28
    refine lv_aload_n hx hb dX9_feed_98 rfl (lv_at hl 1 rfl) ?_
    refine va_get (D := (dC, dI)) (ci := 9) (v := .ref x_tape) (C := RX9) (T := TX9) (N := 12) hx hb hts hiX9 hown hK hP 0 rfl rfl 2 (by decide) hw0 (fun _ h9 => h9) rfl dX9_feed_99 ?_
    refine lv_iload hx hb dX9_feed_102 (lv_at hl 6 rfl) ?_
    have hPc := hP.sub (ws' := [(x_tape, .inr (8, [.int pL2_26, .ref x_ta_bytes])), (x_ta_bytes, .inl (cI, 100, .inl pf2_27))]) [1, 2] rfl
    have hDc := hD.sub (ws' := [(x_tape, .inr (8, [.int pL2_26, .ref x_ta_bytes])), (x_ta_bytes, .inl (cI, 100, .inl pf2_27))]) [1, 2] (by decide) rfl
    have hFc := va_free (wc := [(x_tape, .inr (8, [.int pL2_26, .ref x_ta_bytes])), (x_ta_bytes, .inl (cI, 100, .inl pf2_27))]) hD hS hA [1, 2] rfl
    refine va_callv (va_runV (As := [.int pE]) (rest := []) ⟨hx, hb, hml, hown, hts⟩ (c_X8_append l dC dI cI cZ (H).size x_tape x_ta_bytes pf2_27 pE pE_i pE_h pL2_26 ((pL2_26).toInt) rfl (by omega) (by omega)) ⟨callB_of 1 hts (zz_good zw_437) rfl rfl rfl hw1 hw6 (by decide +kernel) ⟨Nat.le_of_ble_eq_true rfl, Nat.le_of_ble_eq_true rfl⟩, hw7, hw8⟩ ⟨fun a U g mk q => by obtain ⟨q0, q1, qP, qK, qD⟩ := q; exact ⟨q0, q1, qP, va_K.moved (u := U) (U := U.calling g mk a) (Vm.Alike.refl U.vm) qK, qD⟩, va_recv hK hPc (ci := 8) (q0 := 0) rfl rfl, fun U hU hW => ⟨rfl, by rw [hU], by rw [hU]; exact hPc, va_K.moved hW.alike hK, hDc.weaken (fun _ _ _ _ => trivial)⟩⟩ rfl rfl hl.1 rfl (lv_room (Nat.le_of_ble_eq_true rfl)) dX9_feed_104 ⟨Nat.le_of_ble_eq_true rfl, Nat.le_of_ble_eq_true rfl⟩) hS (fun q _ h => hFc q h) hFc (fun u t H1 locs ht hvm hpost hB hz1 hk1 hS => ?_)
    obtain ⟨pL2_29, pf2_30, hf_31, hP1, hK1, hD1⟩ := hB
    rw [ht] at hP1
    obtain ⟨hP, hD⟩ := va_join (wr := [(h0, .inr (9, [.ref x_riders, .ref x_road, .ref x_tape, .ref x_book, .ref x_reader, .ref x_latest, .ref x_log, .ref x_trial, .ref x_stages, .int 0, .int 0, .int 0]))]) (w1 := [(x_tape, .inr (8, [.int pL2_29, .ref x_ta_bytes])), (x_ta_bytes, .inl (cI, 100, .inl pf2_30))]) hP hD [1, 2] [0] rfl rfl (by decide) (by decide) hk1 hFc hP1 hD1
    generalize H1 = H at hP hS ⊢
    have hP : va_P (dC, dI) vwCl [(h0, .inr (9, [.ref x_riders, .ref x_road, .ref x_tape, .ref x_book, .ref x_reader, .ref x_latest, .ref x_log, .ref x_trial, .ref x_stages, .int 0, .int 0, .int 0])), (x_tape, .inr (8, [.int pL2_29, .ref x_ta_bytes])), (x_ta_bytes, .inl (cI, 100, .inl pf2_30))] H := hP
    have hD : va_D A [(h0, .inr (9, [.ref x_riders, .ref x_road, .ref x_tape, .ref x_book, .ref x_reader, .ref x_latest, .ref x_log, .ref x_trial, .ref x_stages, .int 0, .int 0, .int 0])), (x_tape, .inr (8, [.int pL2_29, .ref x_ta_bytes])), (x_ta_bytes, .inl (cI, 100, .inl pf2_30))] := hD
    have hf_31 : pL2_29.toInt = ((pL2_26).toInt) + ((bc pE 4 : Nat) : Int) := hf_31
    refine lv_aload_n hx hb dX9_feed_107 rfl (lv_at hl 1 rfl) ?_
    refine va_get (D := (dC, dI)) (ci := 9) (v := .ref x_tape) (C := RX9) (T := TX9) (N := 12) hx hb hts hiX9 hown hK hP 0 rfl rfl 2 (by decide) hw0 (fun _ h9 => h9) rfl dX9_feed_108 ?_
    refine va_get (D := (dC, dI)) (ci := 8) (v := .int pL2_29) (C := RX8) (T := TX8) (N := 2) hx hb hts hiX8 hown hK hP 1 rfl rfl 0 (by decide) hw5 (fun _ h9 => h9) rfl dX9_feed_111 ?_
    have hP9 := hP.sub (ws' := []) [] rfl
    have hD9 := hD.sub (ws' := []) [] (by decide) rfl
    refine W.widen (k := 0) (n := 0) (Nat.le_of_ble_eq_true rfl) (Nat.le_of_ble_eq_true rfl) ?_
    have hu9 : (pL2_29 : Int32).toInt = (pL2_29).toInt := rfl
    have hf9_0 : pL2_29.toInt = ((bc pA 4 : Nat) : Int) + ((bc pB 4 : Nat) : Int) + ((bc pC 4 : Nat) : Int) + ((bc pD 4 : Nat) : Int) + ((bc pE 4 : Nat) : Int) := by omega
    exact W.iret (v := pL2_29) hx hb hr (fun t ht hW => ⟨⟨pL2_29, pL2_29, rfl, rfl, hf9_0, by rw [ht]; exact hP9, va_K.moved hW.alike hK, hD9⟩, hS.F ht⟩) hS.2.2 dX9_feed_114
  ·
    have c_16 : ¬ (((0:Int) + (((((r_1).toInt + (r_3).toInt) + (r_6).toInt) + (r_9).toInt) + (r_12).toInt)) ≤ (100:Int)) := zz_len hv_15 (by decide) c_16
    exact absurd c_16 (by omega)

set_option maxHeartbeats 4000000 in
set_option maxRecDepth 100000 in
theorem c_X9_end (l : Launch) (dC : Nat → ClassId) (dI : Nat → Nat → Nat) (cI cZ : ClassId) (sz : Nat) (h0 : Nat) (x_riders : Nat) (x_road : Nat) (x_tape : Nat) (x_book : Nat) (x_reader : Nat) (x_latest : Nat) (x_log : Nat) (x_trial : Nat) (x_stages : Nat) (x_ta_bytes : Nat) (pN : Int32) (pN_i : Int) (pN_h : pN.toInt = pN_i) : Met l yX9_end (Cond.code yX9_end cX9_end 2 (some .boolean) :: lw_good) ({ frames := 0, cells := 0, slots := 0, locals := 0 }) (va_Pc [.ref h0, .int pN] (fun U => U.heap.size = sz ∧ va_P (dC, dI) vwCl [(h0, .inr (9, [.ref x_riders, .ref x_road, .ref x_tape, .ref x_book, .ref x_reader, .ref x_latest, .ref x_log, .ref x_trial, .ref x_stages, .int 0, .int 0, .int 0])), (x_tape, .inr (8, [.int 0, .ref x_ta_bytes])), (x_ta_bytes, .inl (cI, 100, .inl (fun _ => 0)))] U.heap ∧ va_K (dC, dI) vwCl [(cI, .int), (cZ, .boolean)] U ∧ va_D (fun _ => True) [(h0, .inr (9, [.ref x_riders, .ref x_road, .ref x_tape, .ref x_book, .ref x_reader, .ref x_latest, .ref x_log, .ref x_trial, .ref x_stages, .int 0, .int 0, .int 0])), (x_tape, .inr (8, [.int 0, .ref x_ta_bytes])), (x_ta_bytes, .inl (cI, 100, .inl (fun _ => 0)))])) (va_Qi (fun (r u : Int32) => r = u) (fun u t => ((u = 1 ∧ (pN_i = 0)) ∨ (u = 0 ∧ ¬ (pN_i = 0))) ∧ va_P (dC, dI) vwCl [] t.heap ∧ va_K (dC, dI) vwCl [(cI, .int), (cZ, .boolean)] t ∧ va_D (va_A [(h0, .inr (9, [.ref x_riders, .ref x_road, .ref x_tape, .ref x_book, .ref x_reader, .ref x_latest, .ref x_log, .ref x_trial, .ref x_stages, .int 0, .int 0, .int 0])), (x_tape, .inr (8, [.int 0, .ref x_ta_bytes])), (x_ta_bytes, .inl (cI, 100, .inl (fun _ => 0)))] sz) []) (va_A [(h0, .inr (9, [.ref x_riders, .ref x_road, .ref x_tape, .ref x_book, .ref x_reader, .ref x_latest, .ref x_log, .ref x_trial, .ref x_stages, .int 0, .int 0, .int 0])), (x_tape, .inr (8, [.int 0, .ref x_ta_bytes])), (x_ta_bytes, .inl (cI, 100, .inl (fun _ => 0)))] sz)) 0 0 (va_A [(h0, .inr (9, [.ref x_riders, .ref x_road, .ref x_tape, .ref x_book, .ref x_reader, .ref x_latest, .ref x_log, .ref x_trial, .ref x_stages, .int 0, .int 0, .int 0])), (x_tape, .inr (8, [.int 0, .ref x_ta_bytes])), (x_ta_bytes, .inl (cI, 100, .inl (fun _ => 0)))] sz) := by
  refine Met.ofW (cc := cX9_end) (maxL := 2) (ret := (some .boolean)) (by decide) rfl ?_
  intro p e s m args below meth c s₁ B hml hv
  obtain ⟨rfl, hsz, hP, hK, hD0⟩ := hv
  have hx := B.exec
  have hb := B.bytes
  have hr := B.returns
  have hts := atoms_spec (ws := Cond.code yX9_end cX9_end 2 (some .boolean) :: lw_good) B.pre
  have hown : s.vm.findClass RX9 = some m.cls := findClass_of_methodNamed B.named
  have hlocks := B.notSynchronized
  have hiX8 : ∀ w ∈ wsX80, w ∈ (Cond.code yX9_end cX9_end 2 (some .boolean) :: lw_good) := fun w h => List.mem_cons_of_mem _ (zi_X8 w h)
  have hiX9 : ∀ w ∈ wsX90, w ∈ (Cond.code yX9_end cX9_end 2 (some .boolean) :: lw_good) := fun w h => List.mem_cons_of_mem _ (zi_X9 w h)
  have hw0 := hts (.fieldLink RX9 26 "BunchRace" "tape" "LBunchRace$Tape;") (List.mem_cons_of_mem _ zw_336)
  have hw1 := hts (.fieldLink RX9 105 "BunchRace$Tape" "length" "I") (List.mem_cons_of_mem _ zw_143)
  subst hsz
  have hD := hD0.self (sz := s.heap.size)
  generalize hAe : va_A [(h0, .inr (9, [.ref x_riders, .ref x_road, .ref x_tape, .ref x_book, .ref x_reader, .ref x_latest, .ref x_log, .ref x_trial, .ref x_stages, .int 0, .int 0, .int 0])), (x_tape, .inr (8, [.int 0, .ref x_ta_bytes])), (x_ta_bytes, .inl (cI, 100, .inl (fun _ => 0)))] s.heap.size = A at hD ⊢
  have hA : ∀ q : Nat, s.heap.size ≤ q → A q := fun q h => by rw [← hAe]; exact Or.inr h
  have hS : va_S A s.heap s.heap [] := va_S.rf
  have hP : va_P (dC, dI) vwCl [(h0, .inr (9, [.ref x_riders, .ref x_road, .ref x_tape, .ref x_book, .ref x_reader, .ref x_latest, .ref x_log, .ref x_trial, .ref x_stages, .int 0, .int 0, .int 0])), (x_tape, .inr (8, [.int 0, .ref x_ta_bytes])), (x_ta_bytes, .inl (cI, 100, .inl (fun _ => 0)))] s.heap := hP
  have hl := lv_entry ([.ref h0, .int pN]) (n := 2) (Nat.le_of_ble_eq_true rfl)
  rw [lg_entry_eq]
  generalize (lg_sl ([.ref h0, .int pN]) ++ List.replicate (2 - (lg_sl ([.ref h0, .int pN])).length) Slot.unset).toArray = ls at hl ⊢
  have hl : lv_has ls 2 [(0, .ref h0), (1, .int pN)] := hl
  refine lv_iload_n hx hb dX9_end_0 rfl (lv_at hl 1 rfl) ?_
  refine lv_if_lt (tgt := 15) hx hb dX9_end_1 (by decide) (fun c_1 => ?_) (fun c_1 => ?_)
  ·
    have c_1 : pN_i < (0:Int) := zz_lt pN_h (by decide) c_1
    refine lv_iconst (v := 0) hx hb dX9_end_15 (by decide) ?_
    have hP9 := hP.sub (ws' := []) [] rfl
    have hD9 := hD.sub (ws' := []) [] (by decide) rfl
    refine W.widen (k := 0) (n := 0) (Nat.le_of_ble_eq_true rfl) (Nat.le_of_ble_eq_true rfl) ?_
    have hu9 : (0 : Int32).toInt = (0:Int) := (by decide)
    have hf9_0 : ((0 : Int32) = 1 ∧ (pN_i = 0)) ∨ ((0 : Int32) = 0 ∧ ¬ (pN_i = 0)) := Or.inr ⟨rfl, by omega⟩
    exact W.zret (v := 0) hx hb hr rfl (fun t ht hW => ⟨⟨0, 0, rfl, rfl, hf9_0, by rw [ht]; exact hP9, va_K.moved hW.alike hK, hD9⟩, hS.F ht⟩) hS.2.2 dX9_end_16
  ·
    have c_1 : ¬ (pN_i < (0:Int)) := zz_ltn pN_h (by decide) c_1
    refine lv_iload_n hx hb dX9_end_4 rfl (lv_at hl 1 rfl) ?_
    refine lv_aload_n hx hb dX9_end_5 rfl (lv_at hl 0 rfl) ?_
    refine va_get (D := (dC, dI)) (ci := 9) (v := .ref x_tape) (C := RX9) (T := TX9) (N := 12) hx hb hts hiX9 hown hK hP 0 rfl rfl 2 (by decide) hw0 (fun _ h9 => h9) rfl dX9_end_6 ?_
    refine va_get (D := (dC, dI)) (ci := 8) (v := .int 0) (C := RX8) (T := TX8) (N := 2) hx hb hts hiX8 hown hK hP 1 rfl rfl 0 (by decide) hw1 (fun _ h9 => h9) rfl dX9_end_9 ?_
    refine lv_icmp_le (tgt := 17) hx hb dX9_end_12 (by decide) (fun c_2 => ?_) (fun c_2 => ?_)
    ·
      have c_2 : pN_i ≤ (0:Int) := zz_le pN_h (by decide) c_2
      refine lv_aload_n hx hb dX9_end_17 rfl (lv_at hl 0 rfl) ?_
      refine va_get (D := (dC, dI)) (ci := 9) (v := .ref x_tape) (C := RX9) (T := TX9) (N := 12) hx hb hts hiX9 hown hK hP 0 rfl rfl 2 (by decide) hw0 (fun _ h9 => h9) rfl dX9_end_18 ?_
      refine lv_iload_n hx hb dX9_end_21 rfl (lv_at hl 1 rfl) ?_
      refine va_put (D := (dC, dI)) (ci := 8) (v := .int pN) (ty := .int) (C := RX8) (T := TX8) (N := 2) hx hb hts hiX8 tyX8 tyX8_ok nmX8 hown hK hP hD hS 1 rfl rfl 0 (by decide) hw1 (fun _ h9 => h9) rfl (by decide +kernel) rfl rfl (Nat.le_of_ble_eq_true rfl) dX9_end_22 (fun H locs hP hD hS => ?_)
      have hP : va_P (dC, dI) vwCl [(h0, .inr (9, [.ref x_riders, .ref x_road, .ref x_tape, .ref x_book, .ref x_reader, .ref x_latest, .ref x_log, .ref x_trial, .ref x_stages, .int 0, .int 0, .int 0])), (x_tape, .inr (8, [.int pN, .ref x_ta_bytes])), (x_ta_bytes, .inl (cI, 100, .inl (fun _ => 0)))] H := hP
      have hD : va_D A [(h0, .inr (9, [.ref x_riders, .ref x_road, .ref x_tape, .ref x_book, .ref x_reader, .ref x_latest, .ref x_log, .ref x_trial, .ref x_stages, .int 0, .int 0, .int 0])), (x_tape, .inr (8, [.int pN, .ref x_ta_bytes])), (x_ta_bytes, .inl (cI, 100, .inl (fun _ => 0)))] := hD
      refine lv_iconst (v := 1) hx hb dX9_end_25 (by decide) ?_
      have hP9 := hP.sub (ws' := []) [] rfl
      have hD9 := hD.sub (ws' := []) [] (by decide) rfl
      refine W.widen (k := 0) (n := 0) (Nat.le_of_ble_eq_true rfl) (Nat.le_of_ble_eq_true rfl) ?_
      have hu9 : (1 : Int32).toInt = (1:Int) := (by decide)
      have hf9_0 : ((1 : Int32) = 1 ∧ (pN_i = 0)) ∨ ((1 : Int32) = 0 ∧ ¬ (pN_i = 0)) := Or.inl ⟨rfl, by omega⟩
      exact W.zret (v := 1) hx hb hr rfl (fun t ht hW => ⟨⟨1, 1, rfl, rfl, hf9_0, by rw [ht]; exact hP9, va_K.moved hW.alike hK, hD9⟩, hS.F ht⟩) hS.2.2 dX9_end_26
    ·
      have c_2 : ¬ (pN_i ≤ (0:Int)) := zz_len pN_h (by decide) c_2
      refine lv_iconst (v := 0) hx hb dX9_end_15 (by decide) ?_
      have hP9 := hP.sub (ws' := []) [] rfl
      have hD9 := hD.sub (ws' := []) [] (by decide) rfl
      refine W.widen (k := 0) (n := 0) (Nat.le_of_ble_eq_true rfl) (Nat.le_of_ble_eq_true rfl) ?_
      have hu9 : (0 : Int32).toInt = (0:Int) := (by decide)
      have hf9_0 : ((0 : Int32) = 1 ∧ (pN_i = 0)) ∨ ((0 : Int32) = 0 ∧ ¬ (pN_i = 0)) := Or.inr ⟨rfl, by omega⟩
      exact W.zret (v := 0) hx hb hr rfl (fun t ht hW => ⟨⟨0, 0, rfl, rfl, hf9_0, by rw [ht]; exact hP9, va_K.moved hW.alike hK, hD9⟩, hS.F ht⟩) hS.2.2 dX9_end_16
