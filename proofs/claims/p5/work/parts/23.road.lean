set_option maxHeartbeats 8000000 in
set_option maxRecDepth 100000 in
theorem c_X6_length (l : Launch) (dC : Nat → ClassId) (dI : Nat → Nat → Nat) (cI cZ : ClassId) (sz : Nat) (h0 : Nat) (v_x_kilometres : Int32) (v_x_kilometres_i : Int) (v_x_kilometres_h : v_x_kilometres.toInt = v_x_kilometres_i) (B_v_x_kilometres : 1 ≤ v_x_kilometres_i ∧ v_x_kilometres_i ≤ 30) (x_rises : Nat) (x_winds : Nat) (v_x_primes : Int32) (v_x_primes_i : Int) (v_x_primes_h : v_x_primes.toInt = v_x_primes_i) (B_v_x_primes : 0 ≤ v_x_primes_i ∧ v_x_primes_i ≤ 5) (x_primeMetres : Nat) (v_x_crashMetre : Int32) (v_x_crashMetre_i : Int) (v_x_crashMetre_h : v_x_crashMetre.toInt = v_x_crashMetre_i) (v_x_crashPart : Int32) (v_x_crashPart_i : Int) (v_x_crashPart_h : v_x_crashPart.toInt = v_x_crashPart_i) : Met l yX6_length (Cond.code yX6_length cX6_length 1 (some .int) :: lw_good) ({ frames := 0, cells := 0, slots := 0, locals := 0 }) (va_Pc [.ref h0] (fun U => U.heap.size = sz ∧ va_P (dC, dI) vwCl [(h0, .inr (6, [.int v_x_kilometres, .ref x_rises, .ref x_winds, .int v_x_primes, .ref x_primeMetres, .int v_x_crashMetre, .int v_x_crashPart]))] U.heap ∧ va_K (dC, dI) vwCl [(cI, .int), (cZ, .boolean)] U ∧ va_D (fun _ => True) [(h0, .inr (6, [.int v_x_kilometres, .ref x_rises, .ref x_winds, .int v_x_primes, .ref x_primeMetres, .int v_x_crashMetre, .int v_x_crashPart]))])) (va_Qi (fun (r u : Int32) => r = u) (fun u t => (u.toInt = v_x_kilometres_i * 1000) ∧ (1000 ≤ u.toInt ∧ u.toInt ≤ 30000) ∧ va_P (dC, dI) vwCl [(h0, .inr (6, [.int v_x_kilometres, .ref x_rises, .ref x_winds, .int v_x_primes, .ref x_primeMetres, .int v_x_crashMetre, .int v_x_crashPart]))] t.heap ∧ va_K (dC, dI) vwCl [(cI, .int), (cZ, .boolean)] t ∧ va_D (va_A [(h0, .inr (6, [.int v_x_kilometres, .ref x_rises, .ref x_winds, .int v_x_primes, .ref x_primeMetres, .int v_x_crashMetre, .int v_x_crashPart]))] sz) [(h0, .inr (6, [.int v_x_kilometres, .ref x_rises, .ref x_winds, .int v_x_primes, .ref x_primeMetres, .int v_x_crashMetre, .int v_x_crashPart]))]) (va_A [(h0, .inr (6, [.int v_x_kilometres, .ref x_rises, .ref x_winds, .int v_x_primes, .ref x_primeMetres, .int v_x_crashMetre, .int v_x_crashPart]))] sz)) 0 0 (va_A [(h0, .inr (6, [.int v_x_kilometres, .ref x_rises, .ref x_winds, .int v_x_primes, .ref x_primeMetres, .int v_x_crashMetre, .int v_x_crashPart]))] sz) := by
  refine Met.ofW (cc := cX6_length) (maxL := 1) (ret := (some .int)) (by decide) rfl ?_
  intro p e s m args below meth c s₁ B hml hv
  obtain ⟨rfl, hsz, hP, hK, hD0⟩ := hv
  have hx := B.exec
  have hb := B.bytes
  have hr := B.returns
  have hts := atoms_spec (ws := Cond.code yX6_length cX6_length 1 (some .int) :: lw_good) B.pre
  have hown : s.vm.findClass RX6 = some m.cls := findClass_of_methodNamed B.named
  have hlocks := B.notSynchronized
  have hiX6 : ∀ w ∈ wsX60, w ∈ (Cond.code yX6_length cX6_length 1 (some .int) :: lw_good) := fun w h => List.mem_cons_of_mem _ (zi_X6 w h)
  have hw0 := hts (.fieldLink RX6 9 "BunchRace$Road" "kilometres" "I") (List.mem_cons_of_mem _ zw_105)
  subst hsz
  have hD := hD0.self (sz := s.heap.size)
  generalize hAe : va_A [(h0, .inr (6, [.int v_x_kilometres, .ref x_rises, .ref x_winds, .int v_x_primes, .ref x_primeMetres, .int v_x_crashMetre, .int v_x_crashPart]))] s.heap.size = A at hD ⊢
  have hA : ∀ q : Nat, s.heap.size ≤ q → A q := fun q h => by rw [← hAe]; exact Or.inr h
  have hS : va_S A s.heap s.heap [] := va_S.rf
  have hP : va_P (dC, dI) vwCl [(h0, .inr (6, [.int v_x_kilometres, .ref x_rises, .ref x_winds, .int v_x_primes, .ref x_primeMetres, .int v_x_crashMetre, .int v_x_crashPart]))] s.heap := hP
  have hl := lv_entry ([.ref h0]) (n := 1) (Nat.le_of_ble_eq_true rfl)
  rw [lg_entry_eq]
  generalize (lg_sl ([.ref h0]) ++ List.replicate (1 - (lg_sl ([.ref h0])).length) Slot.unset).toArray = ls at hl ⊢
  have hl : lv_has ls 1 [(0, .ref h0)] := hl
  refine lv_aload_n hx hb dX6_length_0 rfl (lv_at hl 0 rfl) ?_
  refine va_get (D := (dC, dI)) (ci := 6) (v := .int v_x_kilometres) (C := RX6) (T := TX6) (N := 7) hx hb hts hiX6 hown hK hP 0 rfl rfl 0 (by decide) hw0 (fun _ h9 => h9) rfl dX6_length_1 ?_
  refine lv_sipush (v := 1000) hx hb dX6_length_4 (by decide) ?_
  refine lv_imul hx hb dX6_length_7 ?_
  refine lv_topi (fun v_1 ev_1 => ?_)
  have hv_1 : v_1.toInt = (v_x_kilometres_i * (1000:Int)) := by rw [ev_1]; exact zz_mulI v_x_kilometres_h (by decide) (by omega) (by omega)
  have hu9 : (v_1 : Int32).toInt = (v_x_kilometres_i * (1000:Int)) := hv_1
  have hP9 := hP.sub (ws' := [(h0, .inr (6, [.int v_x_kilometres, .ref x_rises, .ref x_winds, .int v_x_primes, .ref x_primeMetres, .int v_x_crashMetre, .int v_x_crashPart]))]) [0] rfl
  have hD9 := hD.sub (ws' := [(h0, .inr (6, [.int v_x_kilometres, .ref x_rises, .ref x_winds, .int v_x_primes, .ref x_primeMetres, .int v_x_crashMetre, .int v_x_crashPart]))]) [0] (by decide) rfl
  have hf9_0 : v_1.toInt = v_x_kilometres_i * 1000 := by omega
  have hf9_1 : 1000 ≤ v_1.toInt ∧ v_1.toInt ≤ 30000 := by omega
  exact W.iret (v := v_1) hx hb hr (fun t ht hW => ⟨⟨v_1, v_1, rfl, rfl, hf9_0, hf9_1, by rw [ht]; exact hP9, va_K.moved hW.alike hK, hD9⟩, hS.F ht⟩) hS.2.2 dX6_length_8

set_option maxHeartbeats 8000000 in
set_option maxRecDepth 100000 in
theorem c_X6_isBetweenEnds (l : Launch) (dC : Nat → ClassId) (dI : Nat → Nat → Nat) (cI cZ : ClassId) (sz : Nat) (h0 : Nat) (pM : Int32) (pM_i : Int) (pM_h : pM.toInt = pM_i) (v_x_kilometres : Int32) (v_x_kilometres_i : Int) (v_x_kilometres_h : v_x_kilometres.toInt = v_x_kilometres_i) (B_v_x_kilometres : 1 ≤ v_x_kilometres_i ∧ v_x_kilometres_i ≤ 30) (x_rises : Nat) (x_winds : Nat) (v_x_primes : Int32) (v_x_primes_i : Int) (v_x_primes_h : v_x_primes.toInt = v_x_primes_i) (B_v_x_primes : 0 ≤ v_x_primes_i ∧ v_x_primes_i ≤ 5) (x_primeMetres : Nat) (v_x_crashMetre : Int32) (v_x_crashMetre_i : Int) (v_x_crashMetre_h : v_x_crashMetre.toInt = v_x_crashMetre_i) (v_x_crashPart : Int32) (v_x_crashPart_i : Int) (v_x_crashPart_h : v_x_crashPart.toInt = v_x_crashPart_i) : Met l yX6_isBetweenEnds (Cond.code yX6_isBetweenEnds cX6_isBetweenEnds 2 (some .boolean) :: lw_good) ({ frames := 1, cells := 0, slots := 0, locals := 20 }) (va_Pc [.ref h0, .int pM] (fun U => U.heap.size = sz ∧ va_P (dC, dI) vwCl [(h0, .inr (6, [.int v_x_kilometres, .ref x_rises, .ref x_winds, .int v_x_primes, .ref x_primeMetres, .int v_x_crashMetre, .int v_x_crashPart]))] U.heap ∧ va_K (dC, dI) vwCl [(cI, .int), (cZ, .boolean)] U ∧ va_D (fun _ => True) [(h0, .inr (6, [.int v_x_kilometres, .ref x_rises, .ref x_winds, .int v_x_primes, .ref x_primeMetres, .int v_x_crashMetre, .int v_x_crashPart]))])) (va_Qi (fun (r u : Int32) => r = u) (fun u t => ((u = 1 ∧ (1 ≤ pM_i ∧ pM_i < v_x_kilometres_i * 1000)) ∨ (u = 0 ∧ ¬ (1 ≤ pM_i ∧ pM_i < v_x_kilometres_i * 1000))) ∧ va_P (dC, dI) vwCl [(h0, .inr (6, [.int v_x_kilometres, .ref x_rises, .ref x_winds, .int v_x_primes, .ref x_primeMetres, .int v_x_crashMetre, .int v_x_crashPart]))] t.heap ∧ va_K (dC, dI) vwCl [(cI, .int), (cZ, .boolean)] t ∧ va_D (va_A [(h0, .inr (6, [.int v_x_kilometres, .ref x_rises, .ref x_winds, .int v_x_primes, .ref x_primeMetres, .int v_x_crashMetre, .int v_x_crashPart]))] sz) [(h0, .inr (6, [.int v_x_kilometres, .ref x_rises, .ref x_winds, .int v_x_primes, .ref x_primeMetres, .int v_x_crashMetre, .int v_x_crashPart]))]) (va_A [(h0, .inr (6, [.int v_x_kilometres, .ref x_rises, .ref x_winds, .int v_x_primes, .ref x_primeMetres, .int v_x_crashMetre, .int v_x_crashPart]))] sz)) 0 0 (va_A [(h0, .inr (6, [.int v_x_kilometres, .ref x_rises, .ref x_winds, .int v_x_primes, .ref x_primeMetres, .int v_x_crashMetre, .int v_x_crashPart]))] sz) := by
  refine Met.ofW (cc := cX6_isBetweenEnds) (maxL := 2) (ret := (some .boolean)) (by decide) rfl ?_
  intro p e s m args below meth c s₁ B hml hv
  obtain ⟨rfl, hsz, hP, hK, hD0⟩ := hv
  have hx := B.exec
  have hb := B.bytes
  have hr := B.returns
  have hts := atoms_spec (ws := Cond.code yX6_isBetweenEnds cX6_isBetweenEnds 2 (some .boolean) :: lw_good) B.pre
  have hown : s.vm.findClass RX6 = some m.cls := findClass_of_methodNamed B.named
  have hlocks := B.notSynchronized
  have hw0 := hts (.initialized RX6) (List.mem_cons_of_mem _ zw_50)
  have hw1 := hts (.methodLink RX6 34 yX6_length) (List.mem_cons_of_mem _ zw_410)
  have hw2 := hts (.instanceMethod yX6_length) (List.mem_cons_of_mem _ zw_411)
  have hw3 := hts (.selects RX6 yX6_length yX6_length) (List.mem_cons_of_mem _ zw_412)
  subst hsz
  have hD := hD0.self (sz := s.heap.size)
  generalize hAe : va_A [(h0, .inr (6, [.int v_x_kilometres, .ref x_rises, .ref x_winds, .int v_x_primes, .ref x_primeMetres, .int v_x_crashMetre, .int v_x_crashPart]))] s.heap.size = A at hD ⊢
  have hA : ∀ q : Nat, s.heap.size ≤ q → A q := fun q h => by rw [← hAe]; exact Or.inr h
  have hS : va_S A s.heap s.heap [] := va_S.rf
  have hP : va_P (dC, dI) vwCl [(h0, .inr (6, [.int v_x_kilometres, .ref x_rises, .ref x_winds, .int v_x_primes, .ref x_primeMetres, .int v_x_crashMetre, .int v_x_crashPart]))] s.heap := hP
  have hl := lv_entry ([.ref h0, .int pM]) (n := 2) (Nat.le_of_ble_eq_true rfl)
  rw [lg_entry_eq]
  generalize (lg_sl ([.ref h0, .int pM]) ++ List.replicate (2 - (lg_sl ([.ref h0, .int pM])).length) Slot.unset).toArray = ls at hl ⊢
  have hl : lv_has ls 2 [(0, .ref h0), (1, .int pM)] := hl
  refine lv_iload_n hx hb dX6_isBetweenEnds_0 rfl (lv_at hl 1 rfl) ?_
  refine lv_iconst (v := 1) hx hb dX6_isBetweenEnds_1 (by decide) ?_
  refine lv_icmp_lt (tgt := 17) hx hb dX6_isBetweenEnds_2 (by decide) (fun c_1 => ?_) (fun c_1 => ?_)
  ·
    have c_1 : pM_i < (1:Int) := zz_lt pM_h (by decide) c_1
    refine lv_iconst (v := 0) hx hb dX6_isBetweenEnds_17 (by decide) ?_
    have hu9 : (0 : Int32).toInt = (0:Int) := (by decide)
    have hP9 := hP.sub (ws' := [(h0, .inr (6, [.int v_x_kilometres, .ref x_rises, .ref x_winds, .int v_x_primes, .ref x_primeMetres, .int v_x_crashMetre, .int v_x_crashPart]))]) [0] rfl
    have hD9 := hD.sub (ws' := [(h0, .inr (6, [.int v_x_kilometres, .ref x_rises, .ref x_winds, .int v_x_primes, .ref x_primeMetres, .int v_x_crashMetre, .int v_x_crashPart]))]) [0] (by decide) rfl
    have hf9_0 : ((0 : Int32) = 1 ∧ (1 ≤ pM_i ∧ pM_i < v_x_kilometres_i * 1000)) ∨ ((0 : Int32) = 0 ∧ ¬ (1 ≤ pM_i ∧ pM_i < v_x_kilometres_i * 1000)) := Or.inr ⟨rfl, by omega⟩
    exact W.zret (v := 0) hx hb hr rfl (fun t ht hW => ⟨⟨0, 0, rfl, rfl, hf9_0, by rw [ht]; exact hP9, va_K.moved hW.alike hK, hD9⟩, hS.F ht⟩) hS.2.2 dX6_isBetweenEnds_18
  ·
    have c_1 : ¬ (pM_i < (1:Int)) := zz_ltn pM_h (by decide) c_1
    refine lv_iload_n hx hb dX6_isBetweenEnds_5 rfl (lv_at hl 1 rfl) ?_
    refine lv_aload_n hx hb dX6_isBetweenEnds_6 rfl (lv_at hl 0 rfl) ?_
    have hPc := hP.sub (ws' := [(h0, .inr (6, [.int v_x_kilometres, .ref x_rises, .ref x_winds, .int v_x_primes, .ref x_primeMetres, .int v_x_crashMetre, .int v_x_crashPart]))]) [0] rfl
    have hDc := hD.sub (ws' := [(h0, .inr (6, [.int v_x_kilometres, .ref x_rises, .ref x_winds, .int v_x_primes, .ref x_primeMetres, .int v_x_crashMetre, .int v_x_crashPart]))]) [0] (by decide) rfl
    have hFc := va_free (wc := [(h0, .inr (6, [.int v_x_kilometres, .ref x_rises, .ref x_winds, .int v_x_primes, .ref x_primeMetres, .int v_x_crashMetre, .int v_x_crashPart]))]) hD hS hA [0] rfl
    refine va_calli (va_runV (As := []) (rest := [.int pM]) ⟨hx, hb, hml, hown, hts⟩ (c_X6_length l dC dI cI cZ (s.heap).size h0 v_x_kilometres v_x_kilometres_i v_x_kilometres_h (by omega) x_rises x_winds v_x_primes v_x_primes_i v_x_primes_h (by omega) x_primeMetres v_x_crashMetre v_x_crashMetre_i v_x_crashMetre_h v_x_crashPart v_x_crashPart_i v_x_crashPart_h) ⟨callB_of 0 hts (zz_good zw_413) rfl rfl rfl hw0 hw1 (by decide +kernel) ⟨Nat.le_of_ble_eq_true rfl, Nat.le_of_ble_eq_true rfl⟩, hw2, hw3⟩ ⟨fun a U g mk q => by obtain ⟨q0, q1, qP, qK, qD⟩ := q; exact ⟨q0, q1, qP, va_K.moved (u := U) (U := U.calling g mk a) (Vm.Alike.refl U.vm) qK, qD⟩, va_recv hK hPc (ci := 6) (q0 := 0) rfl rfl, fun U hU hW => ⟨rfl, by rw [hU], by rw [hU]; exact hPc, va_K.moved hW.alike hK, hDc.weaken (fun _ _ _ _ => trivial)⟩⟩ rfl rfl hl.1 rfl (lv_room (Nat.le_of_ble_eq_true rfl)) dX6_isBetweenEnds_7 ⟨Nat.le_of_ble_eq_true rfl, Nat.le_of_ble_eq_true rfl⟩) hS (fun q _ h => hFc q h) hFc (fun r_2 u t H1 locs ht hvm hpost hB hz1 hk1 hS => ?_)
    subst hpost
    obtain ⟨hf_3, hf_4, hP1, hK1, hD1⟩ := hB
    rw [ht] at hP1
    obtain ⟨hP, hD⟩ := va_join (wr := []) (w1 := [(h0, .inr (6, [.int v_x_kilometres, .ref x_rises, .ref x_winds, .int v_x_primes, .ref x_primeMetres, .int v_x_crashMetre, .int v_x_crashPart]))]) hP hD [0] [] rfl rfl (by decide) (by decide) hk1 hFc hP1 hD1
    generalize H1 = H at hP hS ⊢
    have hP : va_P (dC, dI) vwCl [(h0, .inr (6, [.int v_x_kilometres, .ref x_rises, .ref x_winds, .int v_x_primes, .ref x_primeMetres, .int v_x_crashMetre, .int v_x_crashPart]))] H := hP
    have hD : va_D A [(h0, .inr (6, [.int v_x_kilometres, .ref x_rises, .ref x_winds, .int v_x_primes, .ref x_primeMetres, .int v_x_crashMetre, .int v_x_crashPart]))] := hD
    have hf_3 : r_2.toInt = v_x_kilometres_i * 1000 := hf_3
    have hf_4 : 1000 ≤ r_2.toInt ∧ r_2.toInt ≤ 30000 := hf_4
    refine lv_icmp_ge (tgt := 17) hx hb dX6_isBetweenEnds_10 (by decide) (fun c_5 => ?_) (fun c_5 => ?_)
    ·
      have c_5 : (v_x_kilometres_i * 1000) ≤ pM_i := zz_le hf_3 pM_h c_5
      refine lv_iconst (v := 0) hx hb dX6_isBetweenEnds_17 (by decide) ?_
      have hu9 : (0 : Int32).toInt = (0:Int) := (by decide)
      have hP9 := hP.sub (ws' := [(h0, .inr (6, [.int v_x_kilometres, .ref x_rises, .ref x_winds, .int v_x_primes, .ref x_primeMetres, .int v_x_crashMetre, .int v_x_crashPart]))]) [0] rfl
      have hD9 := hD.sub (ws' := [(h0, .inr (6, [.int v_x_kilometres, .ref x_rises, .ref x_winds, .int v_x_primes, .ref x_primeMetres, .int v_x_crashMetre, .int v_x_crashPart]))]) [0] (by decide) rfl
      have hf9_0 : ((0 : Int32) = 1 ∧ (1 ≤ pM_i ∧ pM_i < v_x_kilometres_i * 1000)) ∨ ((0 : Int32) = 0 ∧ ¬ (1 ≤ pM_i ∧ pM_i < v_x_kilometres_i * 1000)) := Or.inr ⟨rfl, by omega⟩
      exact W.zret (v := 0) hx hb hr rfl (fun t ht hW => ⟨⟨0, 0, rfl, rfl, hf9_0, by rw [ht]; exact hP9, va_K.moved hW.alike hK, hD9⟩, hS.F ht⟩) hS.2.2 dX6_isBetweenEnds_18
    ·
      have c_5 : ¬ ((v_x_kilometres_i * 1000) ≤ pM_i) := zz_len hf_3 pM_h c_5
      refine lv_iconst (v := 1) hx hb dX6_isBetweenEnds_13 (by decide) ?_
      refine lv_goto (tgt := 18) hx hb dX6_isBetweenEnds_14 (by decide) ?_
      have hu9 : (1 : Int32).toInt = (1:Int) := (by decide)
      have hP9 := hP.sub (ws' := [(h0, .inr (6, [.int v_x_kilometres, .ref x_rises, .ref x_winds, .int v_x_primes, .ref x_primeMetres, .int v_x_crashMetre, .int v_x_crashPart]))]) [0] rfl
      have hD9 := hD.sub (ws' := [(h0, .inr (6, [.int v_x_kilometres, .ref x_rises, .ref x_winds, .int v_x_primes, .ref x_primeMetres, .int v_x_crashMetre, .int v_x_crashPart]))]) [0] (by decide) rfl
      have hf9_0 : ((1 : Int32) = 1 ∧ (1 ≤ pM_i ∧ pM_i < v_x_kilometres_i * 1000)) ∨ ((1 : Int32) = 0 ∧ ¬ (1 ≤ pM_i ∧ pM_i < v_x_kilometres_i * 1000)) := Or.inl ⟨rfl, by omega⟩
      exact W.zret (v := 1) hx hb hr rfl (fun t ht hW => ⟨⟨1, 1, rfl, rfl, hf9_0, by rw [ht]; exact hP9, va_K.moved hW.alike hK, hD9⟩, hS.F ht⟩) hS.2.2 dX6_isBetweenEnds_18

set_option maxHeartbeats 8000000 in
set_option maxRecDepth 100000 in
theorem c_X6_renew (l : Launch) (dC : Nat → ClassId) (dI : Nat → Nat → Nat) (cI cZ : ClassId) (sz : Nat) (h0 : Nat) (pN : Int32) (pN_i : Int) (pN_h : pN.toInt = pN_i) (v_x_kilometres : Int32) (v_x_kilometres_i : Int) (v_x_kilometres_h : v_x_kilometres.toInt = v_x_kilometres_i) (B_v_x_kilometres : 1 ≤ v_x_kilometres_i ∧ v_x_kilometres_i ≤ 30) (x_rises : Nat) (x_winds : Nat) (v_x_primes : Int32) (v_x_primes_i : Int) (v_x_primes_h : v_x_primes.toInt = v_x_primes_i) (B_v_x_primes : 0 ≤ v_x_primes_i ∧ v_x_primes_i ≤ 5) (x_primeMetres : Nat) (v_x_crashMetre : Int32) (v_x_crashMetre_i : Int) (v_x_crashMetre_h : v_x_crashMetre.toInt = v_x_crashMetre_i) (v_x_crashPart : Int32) (v_x_crashPart_i : Int) (v_x_crashPart_h : v_x_crashPart.toInt = v_x_crashPart_i) (f_x_rises : Nat → Int32) (R_x_rises : zr f_x_rises 30 (-5) (10)) (f_x_winds : Nat → Int32) : Met l yX6_renew (Cond.code yX6_renew cX6_renew 3 (some .boolean) :: lw_good) ({ frames := 0, cells := 0, slots := 0, locals := 0 }) (va_Pc [.ref h0, .int pN] (fun U => U.heap.size = sz ∧ va_P (dC, dI) vwCl [(h0, .inr (6, [.int v_x_kilometres, .ref x_rises, .ref x_winds, .int v_x_primes, .ref x_primeMetres, .int v_x_crashMetre, .int v_x_crashPart])), (x_rises, .inl (cI, 30, .inl f_x_rises)), (x_winds, .inl (cI, 30, .inl f_x_winds))] U.heap ∧ va_K (dC, dI) vwCl [(cI, .int), (cZ, .boolean)] U ∧ va_D (fun _ => True) [(h0, .inr (6, [.int v_x_kilometres, .ref x_rises, .ref x_winds, .int v_x_primes, .ref x_primeMetres, .int v_x_crashMetre, .int v_x_crashPart])), (x_rises, .inl (cI, 30, .inl f_x_rises)), (x_winds, .inl (cI, 30, .inl f_x_winds))])) (va_Qi (fun (r u : Int32) => r = u) (fun u t => ∃ (w_h0_kilometres : Int32) (w_h0_primes : Int32) (w_h0_crashMetre : Int32) (w_h0_crashPart : Int32) (g_x_rises : Nat → Int32) (g_x_winds : Nat → Int32), ((u = 1 ∧ (1 ≤ pN_i ∧ pN_i ≤ 30)) ∨ (u = 0 ∧ ¬ (1 ≤ pN_i ∧ pN_i ≤ 30))) ∧ (((1 ≤ pN_i ∧ pN_i ≤ 30) ∧ w_h0_kilometres.toInt = pN_i ∧ w_h0_primes.toInt = 0) ∨ (¬ (1 ≤ pN_i ∧ pN_i ≤ 30) ∧ w_h0_kilometres.toInt = v_x_kilometres_i ∧ w_h0_primes.toInt = v_x_primes_i)) ∧ (1 ≤ w_h0_kilometres.toInt ∧ w_h0_kilometres.toInt ≤ 30) ∧ (0 ≤ w_h0_primes.toInt ∧ w_h0_primes.toInt ≤ 5) ∧ (zr g_x_rises 30 (-5) (10)) ∧ va_P (dC, dI) vwCl [(h0, .inr (6, [.int w_h0_kilometres, .ref x_rises, .ref x_winds, .int w_h0_primes, .ref x_primeMetres, .int w_h0_crashMetre, .int w_h0_crashPart])), (x_rises, .inl (cI, 30, .inl g_x_rises)), (x_winds, .inl (cI, 30, .inl g_x_winds))] t.heap ∧ va_K (dC, dI) vwCl [(cI, .int), (cZ, .boolean)] t ∧ va_D (va_A [(h0, .inr (6, [.int v_x_kilometres, .ref x_rises, .ref x_winds, .int v_x_primes, .ref x_primeMetres, .int v_x_crashMetre, .int v_x_crashPart])), (x_rises, .inl (cI, 30, .inl f_x_rises)), (x_winds, .inl (cI, 30, .inl f_x_winds))] sz) [(h0, .inr (6, [.int w_h0_kilometres, .ref x_rises, .ref x_winds, .int w_h0_primes, .ref x_primeMetres, .int w_h0_crashMetre, .int w_h0_crashPart])), (x_rises, .inl (cI, 30, .inl g_x_rises)), (x_winds, .inl (cI, 30, .inl g_x_winds))]) (va_A [(h0, .inr (6, [.int v_x_kilometres, .ref x_rises, .ref x_winds, .int v_x_primes, .ref x_primeMetres, .int v_x_crashMetre, .int v_x_crashPart])), (x_rises, .inl (cI, 30, .inl f_x_rises)), (x_winds, .inl (cI, 30, .inl f_x_winds))] sz)) 0 0 (va_A [(h0, .inr (6, [.int v_x_kilometres, .ref x_rises, .ref x_winds, .int v_x_primes, .ref x_primeMetres, .int v_x_crashMetre, .int v_x_crashPart])), (x_rises, .inl (cI, 30, .inl f_x_rises)), (x_winds, .inl (cI, 30, .inl f_x_winds))] sz) := by
  refine Met.ofW (cc := cX6_renew) (maxL := 3) (ret := (some .boolean)) (by decide) rfl ?_
  intro p e s m args below meth c s₁ B hml hv
  obtain ⟨rfl, hsz, hP, hK, hD0⟩ := hv
  have hx := B.exec
  have hb := B.bytes
  have hr := B.returns
  have hts := atoms_spec (ws := Cond.code yX6_renew cX6_renew 3 (some .boolean) :: lw_good) B.pre
  have hown : s.vm.findClass RX6 = some m.cls := findClass_of_methodNamed B.named
  have hlocks := B.notSynchronized
  have hiX6 : ∀ w ∈ wsX60, w ∈ (Cond.code yX6_renew cX6_renew 3 (some .boolean) :: lw_good) := fun w h => List.mem_cons_of_mem _ (zi_X6 w h)
  have hw0 := hts (.fieldLink RX6 9 "BunchRace$Road" "kilometres" "I") (List.mem_cons_of_mem _ zw_105)
  have hw1 := hts (.fieldLink RX6 22 "BunchRace$Road" "primes" "I") (List.mem_cons_of_mem _ zw_111)
  have hw2 := hts (.fieldLink RX6 28 "BunchRace$Road" "crashMetre" "I") (List.mem_cons_of_mem _ zw_116)
  have hw3 := hts (.fieldLink RX6 31 "BunchRace$Road" "crashPart" "I") (List.mem_cons_of_mem _ zw_118)
  have hw4 := hts (.fieldLink RX6 15 "BunchRace$Road" "rises" "[I") (List.mem_cons_of_mem _ zw_107)
  have hw5 := hts (.fieldLink RX6 19 "BunchRace$Road" "winds" "[I") (List.mem_cons_of_mem _ zw_109)
  subst hsz
  have hD := hD0.self (sz := s.heap.size)
  generalize hAe : va_A [(h0, .inr (6, [.int v_x_kilometres, .ref x_rises, .ref x_winds, .int v_x_primes, .ref x_primeMetres, .int v_x_crashMetre, .int v_x_crashPart])), (x_rises, .inl (cI, 30, .inl f_x_rises)), (x_winds, .inl (cI, 30, .inl f_x_winds))] s.heap.size = A at hD ⊢
  have hA : ∀ q : Nat, s.heap.size ≤ q → A q := fun q h => by rw [← hAe]; exact Or.inr h
  have hS : va_S A s.heap s.heap [] := va_S.rf
  have hP : va_P (dC, dI) vwCl [(h0, .inr (6, [.int v_x_kilometres, .ref x_rises, .ref x_winds, .int v_x_primes, .ref x_primeMetres, .int v_x_crashMetre, .int v_x_crashPart])), (x_rises, .inl (cI, 30, .inl f_x_rises)), (x_winds, .inl (cI, 30, .inl f_x_winds))] s.heap := hP
  have hl := lv_entry ([.ref h0, .int pN]) (n := 3) (Nat.le_of_ble_eq_true rfl)
  rw [lg_entry_eq]
  generalize (lg_sl ([.ref h0, .int pN]) ++ List.replicate (3 - (lg_sl ([.ref h0, .int pN])).length) Slot.unset).toArray = ls at hl ⊢
  have hl : lv_has ls 3 [(0, .ref h0), (1, .int pN)] := hl
  refine lv_iload_n hx hb dX6_renew_0 rfl (lv_at hl 1 rfl) ?_
  refine lv_iconst (v := 1) hx hb dX6_renew_1 (by decide) ?_
  refine lv_icmp_lt (tgt := 11) hx hb dX6_renew_2 (by decide) (fun c_1 => ?_) (fun c_1 => ?_)
  ·
    have c_1 : pN_i < (1:Int) := zz_lt pN_h (by decide) c_1
    refine lv_iconst (v := 0) hx hb dX6_renew_11 (by decide) ?_
    have hu9 : (0 : Int32).toInt = (0:Int) := (by decide)
    have hx9_w_h0_kilometres : (v_x_kilometres : Int32).toInt = v_x_kilometres_i := v_x_kilometres_h
    have hx9_w_h0_primes : (v_x_primes : Int32).toInt = v_x_primes_i := v_x_primes_h
    have hx9_w_h0_crashMetre : (v_x_crashMetre : Int32).toInt = v_x_crashMetre_i := v_x_crashMetre_h
    have hx9_w_h0_crashPart : (v_x_crashPart : Int32).toInt = v_x_crashPart_i := v_x_crashPart_h
    have hP9 := hP.sub (ws' := [(h0, .inr (6, [.int v_x_kilometres, .ref x_rises, .ref x_winds, .int v_x_primes, .ref x_primeMetres, .int v_x_crashMetre, .int v_x_crashPart])), (x_rises, .inl (cI, 30, .inl f_x_rises)), (x_winds, .inl (cI, 30, .inl f_x_winds))]) [0, 1, 2] rfl
    have hD9 := hD.sub (ws' := [(h0, .inr (6, [.int v_x_kilometres, .ref x_rises, .ref x_winds, .int v_x_primes, .ref x_primeMetres, .int v_x_crashMetre, .int v_x_crashPart])), (x_rises, .inl (cI, 30, .inl f_x_rises)), (x_winds, .inl (cI, 30, .inl f_x_winds))]) [0, 1, 2] (by decide) rfl
    have hf9_0 : ((0 : Int32) = 1 ∧ (1 ≤ pN_i ∧ pN_i ≤ 30)) ∨ ((0 : Int32) = 0 ∧ ¬ (1 ≤ pN_i ∧ pN_i ≤ 30)) := Or.inr ⟨rfl, by omega⟩
    have hf9_1 : ((1 ≤ pN_i ∧ pN_i ≤ 30) ∧ v_x_kilometres.toInt = pN_i ∧ v_x_primes.toInt = 0) ∨ (¬ (1 ≤ pN_i ∧ pN_i ≤ 30) ∧ v_x_kilometres.toInt = v_x_kilometres_i ∧ v_x_primes.toInt = v_x_primes_i) := by omega
    have hf9_2 : 1 ≤ v_x_kilometres.toInt ∧ v_x_kilometres.toInt ≤ 30 := by omega
    have hf9_3 : 0 ≤ v_x_primes.toInt ∧ v_x_primes.toInt ≤ 5 := by omega
    have hf9_4 : zr f_x_rises 30 (-5) (10) := R_x_rises
    exact W.zret (v := 0) hx hb hr rfl (fun t ht hW => ⟨⟨0, 0, rfl, rfl, v_x_kilometres, v_x_primes, v_x_crashMetre, v_x_crashPart, f_x_rises, f_x_winds, hf9_0, hf9_1, hf9_2, hf9_3, hf9_4, by rw [ht]; exact hP9, va_K.moved hW.alike hK, hD9⟩, hS.F ht⟩) hS.2.2 dX6_renew_12
  ·
    have c_1 : ¬ (pN_i < (1:Int)) := zz_ltn pN_h (by decide) c_1
    refine lv_iload_n hx hb dX6_renew_5 rfl (lv_at hl 1 rfl) ?_
    refine lv_bipush (v := 30) hx hb dX6_renew_6 (by decide) ?_
    refine lv_icmp_le (tgt := 13) hx hb dX6_renew_8 (by decide) (fun c_2 => ?_) (fun c_2 => ?_)
    ·
      have c_2 : pN_i ≤ (30:Int) := zz_le pN_h (by decide) c_2
      refine lv_aload_n hx hb dX6_renew_13 rfl (lv_at hl 0 rfl) ?_
      refine lv_iload_n hx hb dX6_renew_14 rfl (lv_at hl 1 rfl) ?_
      refine va_put (D := (dC, dI)) (ci := 6) (v := .int pN) (ty := .int) (C := RX6) (T := TX6) (N := 7) hx hb hts hiX6 tyX6 tyX6_ok nmX6 hown hK hP hD hS 0 rfl rfl 0 (by decide) hw0 (fun _ h9 => h9) rfl (by decide +kernel) rfl rfl (Nat.le_of_ble_eq_true rfl) dX6_renew_15 (fun H locs hP hD hS => ?_)
      have hP : va_P (dC, dI) vwCl [(h0, .inr (6, [.int pN, .ref x_rises, .ref x_winds, .int v_x_primes, .ref x_primeMetres, .int v_x_crashMetre, .int v_x_crashPart])), (x_rises, .inl (cI, 30, .inl f_x_rises)), (x_winds, .inl (cI, 30, .inl f_x_winds))] H := hP
      have hD : va_D A [(h0, .inr (6, [.int pN, .ref x_rises, .ref x_winds, .int v_x_primes, .ref x_primeMetres, .int v_x_crashMetre, .int v_x_crashPart])), (x_rises, .inl (cI, 30, .inl f_x_rises)), (x_winds, .inl (cI, 30, .inl f_x_winds))] := hD
      refine lv_iconst (v := 0) hx hb dX6_renew_18 (by decide) ?_
      refine lv_istore_n (lv' := [(2, .int 0), (0, .ref h0), (1, .int pN)]) hx hb dX6_renew_19 rfl hl (by decide) rfl (fun ls hl => ?_)
      have L_11 : ∀ (n : Nat) (i2_L_11 : Int32) (g_x_rises_L_11 : Nat → Int32) (g_x_winds_L_11 : Nat → Int32) (H : Heap) (locs : List Loc) (ls : Array Slot), (0 ≤ i2_L_11.toInt) → (i2_L_11.toInt ≤ 30) → (zr g_x_rises_L_11 30 (-5) (10)) → (30 - i2_L_11.toInt) < (n : Int) → va_P (dC, dI) vwCl [(h0, .inr (6, [.int pN, .ref x_rises, .ref x_winds, .int v_x_primes, .ref x_primeMetres, .int v_x_crashMetre, .int v_x_crashPart])), (x_rises, .inl (cI, 30, .inl g_x_rises_L_11)), (x_winds, .inl (cI, 30, .inl g_x_winds_L_11))] H → va_D A [(h0, .inr (6, [.int pN, .ref x_rises, .ref x_winds, .int v_x_primes, .ref x_primeMetres, .int v_x_crashMetre, .int v_x_crashPart])), (x_rises, .inl (cI, 30, .inl g_x_rises_L_11)), (x_winds, .inl (cI, 30, .inl g_x_winds_L_11))] → va_S A s.heap H locs → lv_has ls 3 [(2, .int i2_L_11), (0, .ref h0), (1, .int pN)] → W p l e ((headSpec (Cond.code yX6_renew cX6_renew 3 (some .boolean) :: lw_good) ({ frames := 0, cells := 0, slots := 0, locals := 0 })).room) s m (([.ref h0, .int pN] : List Value).toArray) below meth c H locs 0 0 (MQ below (va_Qi (fun (r u : Int32) => r = u) (fun u t => ∃ (w_h0_kilometres : Int32) (w_h0_primes : Int32) (w_h0_crashMetre : Int32) (w_h0_crashPart : Int32) (g_x_rises : Nat → Int32) (g_x_winds : Nat → Int32), ((u = 1 ∧ (1 ≤ pN_i ∧ pN_i ≤ 30)) ∨ (u = 0 ∧ ¬ (1 ≤ pN_i ∧ pN_i ≤ 30))) ∧ (((1 ≤ pN_i ∧ pN_i ≤ 30) ∧ w_h0_kilometres.toInt = pN_i ∧ w_h0_primes.toInt = 0) ∨ (¬ (1 ≤ pN_i ∧ pN_i ≤ 30) ∧ w_h0_kilometres.toInt = v_x_kilometres_i ∧ w_h0_primes.toInt = v_x_primes_i)) ∧ (1 ≤ w_h0_kilometres.toInt ∧ w_h0_kilometres.toInt ≤ 30) ∧ (0 ≤ w_h0_primes.toInt ∧ w_h0_primes.toInt ≤ 5) ∧ (zr g_x_rises 30 (-5) (10)) ∧ va_P (dC, dI) vwCl [(h0, .inr (6, [.int w_h0_kilometres, .ref x_rises, .ref x_winds, .int w_h0_primes, .ref x_primeMetres, .int w_h0_crashMetre, .int w_h0_crashPart])), (x_rises, .inl (cI, 30, .inl g_x_rises)), (x_winds, .inl (cI, 30, .inl g_x_winds))] t.heap ∧ va_K (dC, dI) vwCl [(cI, .int), (cZ, .boolean)] t ∧ va_D A [(h0, .inr (6, [.int w_h0_kilometres, .ref x_rises, .ref x_winds, .int w_h0_primes, .ref x_primeMetres, .int w_h0_crashMetre, .int w_h0_crashPart])), (x_rises, .inl (cI, 30, .inl g_x_rises)), (x_winds, .inl (cI, 30, .inl g_x_winds))]) A) (([.ref h0, .int pN] : List Value).toArray) s 0 0 A) (F0 m 20 ls []) := by
        intro n
        induction n with
        | zero =>
          intro i2_L_11 g_x_rises_L_11 g_x_winds_L_11 H locs ls hI0 hI1 hI2 hM
          exact absurd hM (by omega)
        | succ n ih =>
          intro i2_L_11 g_x_rises_L_11 g_x_winds_L_11 H locs ls hI0 hI1 hI2 hM hP hD hS hl
          have ih_12 := ih
          have hi_13 := hI0
          have hi_14 := hI1
          have hi_15 := hI2
          refine lv_iload_n hx hb dX6_renew_20 rfl (lv_at hl 0 rfl) ?_
          refine lv_bipush (v := 30) hx hb dX6_renew_21 (by decide) ?_
          refine lv_icmp_ge (tgt := 46) hx hb dX6_renew_23 (by decide) (fun c_16 => ?_) (fun c_16 => ?_)
          ·
            have c_16 : (30:Int) ≤ (i2_L_11).toInt := zz_le (by decide) rfl c_16
            refine lv_aload_n hx hb dX6_renew_46 rfl (lv_at hl 1 rfl) ?_
            refine lv_iconst (v := 0) hx hb dX6_renew_47 (by decide) ?_
            refine va_put (D := (dC, dI)) (ci := 6) (v := .int 0) (ty := .int) (C := RX6) (T := TX6) (N := 7) hx hb hts hiX6 tyX6 tyX6_ok nmX6 hown hK hP hD hS 0 rfl rfl 3 (by decide) hw1 (fun _ h9 => h9) rfl (by decide +kernel) rfl rfl (Nat.le_of_ble_eq_true rfl) dX6_renew_48 (fun H locs hP hD hS => ?_)
            have hP : va_P (dC, dI) vwCl [(h0, .inr (6, [.int pN, .ref x_rises, .ref x_winds, .int 0, .ref x_primeMetres, .int v_x_crashMetre, .int v_x_crashPart])), (x_rises, .inl (cI, 30, .inl g_x_rises_L_11)), (x_winds, .inl (cI, 30, .inl g_x_winds_L_11))] H := hP
            have hD : va_D A [(h0, .inr (6, [.int pN, .ref x_rises, .ref x_winds, .int 0, .ref x_primeMetres, .int v_x_crashMetre, .int v_x_crashPart])), (x_rises, .inl (cI, 30, .inl g_x_rises_L_11)), (x_winds, .inl (cI, 30, .inl g_x_winds_L_11))] := hD
            refine lv_aload_n hx hb dX6_renew_51 rfl (lv_at hl 1 rfl) ?_
            refine lv_iconst (v := 0) hx hb dX6_renew_52 (by decide) ?_
            refine va_put (D := (dC, dI)) (ci := 6) (v := .int 0) (ty := .int) (C := RX6) (T := TX6) (N := 7) hx hb hts hiX6 tyX6 tyX6_ok nmX6 hown hK hP hD hS 0 rfl rfl 5 (by decide) hw2 (fun _ h9 => h9) rfl (by decide +kernel) rfl rfl (Nat.le_of_ble_eq_true rfl) dX6_renew_53 (fun H locs hP hD hS => ?_)
            have hP : va_P (dC, dI) vwCl [(h0, .inr (6, [.int pN, .ref x_rises, .ref x_winds, .int 0, .ref x_primeMetres, .int 0, .int v_x_crashPart])), (x_rises, .inl (cI, 30, .inl g_x_rises_L_11)), (x_winds, .inl (cI, 30, .inl g_x_winds_L_11))] H := hP
            have hD : va_D A [(h0, .inr (6, [.int pN, .ref x_rises, .ref x_winds, .int 0, .ref x_primeMetres, .int 0, .int v_x_crashPart])), (x_rises, .inl (cI, 30, .inl g_x_rises_L_11)), (x_winds, .inl (cI, 30, .inl g_x_winds_L_11))] := hD
            refine lv_aload_n hx hb dX6_renew_56 rfl (lv_at hl 1 rfl) ?_
            refine lv_iconst (v := 0) hx hb dX6_renew_57 (by decide) ?_
            refine va_put (D := (dC, dI)) (ci := 6) (v := .int 0) (ty := .int) (C := RX6) (T := TX6) (N := 7) hx hb hts hiX6 tyX6 tyX6_ok nmX6 hown hK hP hD hS 0 rfl rfl 6 (by decide) hw3 (fun _ h9 => h9) rfl (by decide +kernel) rfl rfl (Nat.le_of_ble_eq_true rfl) dX6_renew_58 (fun H locs hP hD hS => ?_)
            have hP : va_P (dC, dI) vwCl [(h0, .inr (6, [.int pN, .ref x_rises, .ref x_winds, .int 0, .ref x_primeMetres, .int 0, .int 0])), (x_rises, .inl (cI, 30, .inl g_x_rises_L_11)), (x_winds, .inl (cI, 30, .inl g_x_winds_L_11))] H := hP
            have hD : va_D A [(h0, .inr (6, [.int pN, .ref x_rises, .ref x_winds, .int 0, .ref x_primeMetres, .int 0, .int 0])), (x_rises, .inl (cI, 30, .inl g_x_rises_L_11)), (x_winds, .inl (cI, 30, .inl g_x_winds_L_11))] := hD
            refine lv_iconst (v := 1) hx hb dX6_renew_61 (by decide) ?_
            have hu9 : (1 : Int32).toInt = (1:Int) := (by decide)
            have hx9_w_h0_kilometres : (pN : Int32).toInt = pN_i := pN_h
            have hx9_w_h0_primes : (0 : Int32).toInt = (0:Int) := (by decide)
            have hx9_w_h0_crashMetre : (0 : Int32).toInt = (0:Int) := (by decide)
            have hx9_w_h0_crashPart : (0 : Int32).toInt = (0:Int) := (by decide)
            have hP9 := hP.sub (ws' := [(h0, .inr (6, [.int pN, .ref x_rises, .ref x_winds, .int 0, .ref x_primeMetres, .int 0, .int 0])), (x_rises, .inl (cI, 30, .inl g_x_rises_L_11)), (x_winds, .inl (cI, 30, .inl g_x_winds_L_11))]) [0, 1, 2] rfl
            have hD9 := hD.sub (ws' := [(h0, .inr (6, [.int pN, .ref x_rises, .ref x_winds, .int 0, .ref x_primeMetres, .int 0, .int 0])), (x_rises, .inl (cI, 30, .inl g_x_rises_L_11)), (x_winds, .inl (cI, 30, .inl g_x_winds_L_11))]) [0, 1, 2] (by decide) rfl
            have hf9_0 : ((1 : Int32) = 1 ∧ (1 ≤ pN_i ∧ pN_i ≤ 30)) ∨ ((1 : Int32) = 0 ∧ ¬ (1 ≤ pN_i ∧ pN_i ≤ 30)) := Or.inl ⟨rfl, by omega⟩
            have hf9_1 : ((1 ≤ pN_i ∧ pN_i ≤ 30) ∧ pN.toInt = pN_i ∧ (0 : Int32).toInt = 0) ∨ (¬ (1 ≤ pN_i ∧ pN_i ≤ 30) ∧ pN.toInt = v_x_kilometres_i ∧ (0 : Int32).toInt = v_x_primes_i) := by omega
            have hf9_2 : 1 ≤ pN.toInt ∧ pN.toInt ≤ 30 := by omega
            have hf9_3 : 0 ≤ (0 : Int32).toInt ∧ (0 : Int32).toInt ≤ 5 := by omega
            have hf9_4 : zr g_x_rises_L_11 30 (-5) (10) := hi_15
            exact W.zret (v := 1) hx hb hr rfl (fun t ht hW => ⟨⟨1, 1, rfl, rfl, pN, (0 : Int32), (0 : Int32), (0 : Int32), g_x_rises_L_11, g_x_winds_L_11, hf9_0, hf9_1, hf9_2, hf9_3, hf9_4, by rw [ht]; exact hP9, va_K.moved hW.alike hK, hD9⟩, hS.F ht⟩) hS.2.2 dX6_renew_62
          ·
            have c_16 : ¬ ((30:Int) ≤ (i2_L_11).toInt) := zz_len (by decide) rfl c_16
            refine lv_aload_n hx hb dX6_renew_26 rfl (lv_at hl 1 rfl) ?_
            refine va_get (D := (dC, dI)) (ci := 6) (v := .ref x_rises) (C := RX6) (T := TX6) (N := 7) hx hb hts hiX6 hown hK hP 0 rfl rfl 1 (by decide) hw4 (fun _ h9 => h9) rfl dX6_renew_27 ?_
            refine lv_iload_n hx hb dX6_renew_30 rfl (lv_at hl 0 rfl) ?_
            refine lv_iconst (v := 0) hx hb dX6_renew_31 (by decide) ?_
            refine va_iast hx hb hK hP hD hS 1 0 rfl rfl (zz_in (a := (i2_L_11).toInt) rfl (by omega) (by omega)) dX6_renew_32 (fun H locs hP hD hS => ?_)
            have hP : va_P (dC, dI) vwCl [(h0, .inr (6, [.int pN, .ref x_rises, .ref x_winds, .int v_x_primes, .ref x_primeMetres, .int v_x_crashMetre, .int v_x_crashPart])), (x_rises, .inl (cI, 30, .inl (upd g_x_rises_L_11 (Int32.toNatClampNeg i2_L_11) 0))), (x_winds, .inl (cI, 30, .inl g_x_winds_L_11))] H := hP
            have hD : va_D A [(h0, .inr (6, [.int pN, .ref x_rises, .ref x_winds, .int v_x_primes, .ref x_primeMetres, .int v_x_crashMetre, .int v_x_crashPart])), (x_rises, .inl (cI, 30, .inl (upd g_x_rises_L_11 (Int32.toNatClampNeg i2_L_11) 0))), (x_winds, .inl (cI, 30, .inl g_x_winds_L_11))] := hD
            have R_18 : zr (upd g_x_rises_L_11 (Int32.toNatClampNeg i2_L_11) 0) 30 (-5) (10) := zr_upd (b := (0:Int)) hi_15 _ (by decide) (by omega) (by omega)
            generalize upd g_x_rises_L_11 (Int32.toNatClampNeg i2_L_11) 0 = f_17 at hP hD R_18
            refine lv_aload_n hx hb dX6_renew_33 rfl (lv_at hl 1 rfl) ?_
            refine va_get (D := (dC, dI)) (ci := 6) (v := .ref x_winds) (C := RX6) (T := TX6) (N := 7) hx hb hts hiX6 hown hK hP 0 rfl rfl 2 (by decide) hw5 (fun _ h9 => h9) rfl dX6_renew_34 ?_
            refine lv_iload_n hx hb dX6_renew_37 rfl (lv_at hl 0 rfl) ?_
            refine lv_iconst (v := 0) hx hb dX6_renew_38 (by decide) ?_
            refine va_iast hx hb hK hP hD hS 2 0 rfl rfl (zz_in (a := (i2_L_11).toInt) rfl (by omega) (by omega)) dX6_renew_39 (fun H locs hP hD hS => ?_)
            have hP : va_P (dC, dI) vwCl [(h0, .inr (6, [.int pN, .ref x_rises, .ref x_winds, .int v_x_primes, .ref x_primeMetres, .int v_x_crashMetre, .int v_x_crashPart])), (x_rises, .inl (cI, 30, .inl f_17)), (x_winds, .inl (cI, 30, .inl (upd g_x_winds_L_11 (Int32.toNatClampNeg i2_L_11) 0)))] H := hP
            have hD : va_D A [(h0, .inr (6, [.int pN, .ref x_rises, .ref x_winds, .int v_x_primes, .ref x_primeMetres, .int v_x_crashMetre, .int v_x_crashPart])), (x_rises, .inl (cI, 30, .inl f_17)), (x_winds, .inl (cI, 30, .inl (upd g_x_winds_L_11 (Int32.toNatClampNeg i2_L_11) 0)))] := hD
            generalize upd g_x_winds_L_11 (Int32.toNatClampNeg i2_L_11) 0 = f_19 at hP hD
            obtain ⟨v_20, ev_20⟩ : ∃ y : Int32, y = i2_L_11 + 1 := ⟨_, rfl⟩
            have hv_20 : v_20.toInt = ((i2_L_11).toInt + (1:Int)) := by rw [ev_20]; exact zz_addI rfl (by decide) (by omega) (by omega)
            refine lv_iinc (v := v_20) (lv' := [(2, .int v_20), (0, .ref h0), (1, .int pN)]) hx hb dX6_renew_40 hl (k := 0) rfl (by rw [ev_20]; rfl) (by decide) rfl (fun ls hl => ?_)
            refine lv_goto (tgt := 20) hx hb dX6_renew_43 (by decide) ?_
            have hb_21_i2_L_11 : (v_20 : Int32).toInt = ((i2_L_11).toInt + (1:Int)) := hv_20
            exact ih_12 v_20 f_17 f_19 H locs ls (by omega) (by omega) R_18 (by omega) (hP.sub [0, 1, 2] rfl) (hD.sub [0, 1, 2] (by decide) rfl) hS (lv_sub hl [0, 1, 2] rfl)
      have hb_22_i2_L_11 : (0 : Int32).toInt = (0:Int) := (by decide)
      exact L_11 1000 0 f_x_rises f_x_winds H locs ls (by omega) (by omega) R_x_rises (by omega) (hP.sub [0, 1, 2] rfl) (hD.sub [0, 1, 2] (by decide) rfl) hS (lv_sub hl [0, 1, 2] rfl)
    ·
      have c_2 : ¬ (pN_i ≤ (30:Int)) := zz_len pN_h (by decide) c_2
      refine lv_iconst (v := 0) hx hb dX6_renew_11 (by decide) ?_
      have hu9 : (0 : Int32).toInt = (0:Int) := (by decide)
      have hx9_w_h0_kilometres : (v_x_kilometres : Int32).toInt = v_x_kilometres_i := v_x_kilometres_h
      have hx9_w_h0_primes : (v_x_primes : Int32).toInt = v_x_primes_i := v_x_primes_h
      have hx9_w_h0_crashMetre : (v_x_crashMetre : Int32).toInt = v_x_crashMetre_i := v_x_crashMetre_h
      have hx9_w_h0_crashPart : (v_x_crashPart : Int32).toInt = v_x_crashPart_i := v_x_crashPart_h
      have hP9 := hP.sub (ws' := [(h0, .inr (6, [.int v_x_kilometres, .ref x_rises, .ref x_winds, .int v_x_primes, .ref x_primeMetres, .int v_x_crashMetre, .int v_x_crashPart])), (x_rises, .inl (cI, 30, .inl f_x_rises)), (x_winds, .inl (cI, 30, .inl f_x_winds))]) [0, 1, 2] rfl
      have hD9 := hD.sub (ws' := [(h0, .inr (6, [.int v_x_kilometres, .ref x_rises, .ref x_winds, .int v_x_primes, .ref x_primeMetres, .int v_x_crashMetre, .int v_x_crashPart])), (x_rises, .inl (cI, 30, .inl f_x_rises)), (x_winds, .inl (cI, 30, .inl f_x_winds))]) [0, 1, 2] (by decide) rfl
      have hf9_0 : ((0 : Int32) = 1 ∧ (1 ≤ pN_i ∧ pN_i ≤ 30)) ∨ ((0 : Int32) = 0 ∧ ¬ (1 ≤ pN_i ∧ pN_i ≤ 30)) := Or.inr ⟨rfl, by omega⟩
      have hf9_1 : ((1 ≤ pN_i ∧ pN_i ≤ 30) ∧ v_x_kilometres.toInt = pN_i ∧ v_x_primes.toInt = 0) ∨ (¬ (1 ≤ pN_i ∧ pN_i ≤ 30) ∧ v_x_kilometres.toInt = v_x_kilometres_i ∧ v_x_primes.toInt = v_x_primes_i) := by omega
      have hf9_2 : 1 ≤ v_x_kilometres.toInt ∧ v_x_kilometres.toInt ≤ 30 := by omega
      have hf9_3 : 0 ≤ v_x_primes.toInt ∧ v_x_primes.toInt ≤ 5 := by omega
      have hf9_4 : zr f_x_rises 30 (-5) (10) := R_x_rises
      exact W.zret (v := 0) hx hb hr rfl (fun t ht hW => ⟨⟨0, 0, rfl, rfl, v_x_kilometres, v_x_primes, v_x_crashMetre, v_x_crashPart, f_x_rises, f_x_winds, hf9_0, hf9_1, hf9_2, hf9_3, hf9_4, by rw [ht]; exact hP9, va_K.moved hW.alike hK, hD9⟩, hS.F ht⟩) hS.2.2 dX6_renew_12

set_option maxHeartbeats 8000000 in
set_option maxRecDepth 100000 in
theorem c_X6_shape (l : Launch) (dC : Nat → ClassId) (dI : Nat → Nat → Nat) (cI cZ : ClassId) (sz : Nat) (h0 : Nat) (pK : Int32) (pK_i : Int) (pK_h : pK.toInt = pK_i) (pR : Int32) (pR_i : Int) (pR_h : pR.toInt = pR_i) (pW : Int32) (pW_i : Int) (pW_h : pW.toInt = pW_i) (v_x_kilometres : Int32) (v_x_kilometres_i : Int) (v_x_kilometres_h : v_x_kilometres.toInt = v_x_kilometres_i) (B_v_x_kilometres : 1 ≤ v_x_kilometres_i ∧ v_x_kilometres_i ≤ 30) (x_rises : Nat) (x_winds : Nat) (v_x_primes : Int32) (v_x_primes_i : Int) (v_x_primes_h : v_x_primes.toInt = v_x_primes_i) (B_v_x_primes : 0 ≤ v_x_primes_i ∧ v_x_primes_i ≤ 5) (x_primeMetres : Nat) (v_x_crashMetre : Int32) (v_x_crashMetre_i : Int) (v_x_crashMetre_h : v_x_crashMetre.toInt = v_x_crashMetre_i) (v_x_crashPart : Int32) (v_x_crashPart_i : Int) (v_x_crashPart_h : v_x_crashPart.toInt = v_x_crashPart_i) (f_x_rises : Nat → Int32) (R_x_rises : zr f_x_rises 30 (-5) (10)) (f_x_winds : Nat → Int32) : Met l yX6_shape (Cond.code yX6_shape cX6_shape 4 (some .boolean) :: lw_good) ({ frames := 0, cells := 0, slots := 0, locals := 0 }) (va_Pc [.ref h0, .int pK, .int pR, .int pW] (fun U => U.heap.size = sz ∧ va_P (dC, dI) vwCl [(h0, .inr (6, [.int v_x_kilometres, .ref x_rises, .ref x_winds, .int v_x_primes, .ref x_primeMetres, .int v_x_crashMetre, .int v_x_crashPart])), (x_rises, .inl (cI, 30, .inl f_x_rises)), (x_winds, .inl (cI, 30, .inl f_x_winds))] U.heap ∧ va_K (dC, dI) vwCl [(cI, .int), (cZ, .boolean)] U ∧ va_D (fun _ => True) [(h0, .inr (6, [.int v_x_kilometres, .ref x_rises, .ref x_winds, .int v_x_primes, .ref x_primeMetres, .int v_x_crashMetre, .int v_x_crashPart])), (x_rises, .inl (cI, 30, .inl f_x_rises)), (x_winds, .inl (cI, 30, .inl f_x_winds))])) (va_Qi (fun (r u : Int32) => r = u) (fun u t => ∃ (g_x_rises : Nat → Int32) (g_x_winds : Nat → Int32), ((u = 1 ∧ (0 ≤ pK_i ∧ pK_i < v_x_kilometres_i ∧ -5 ≤ pR_i ∧ pR_i ≤ 10 ∧ -3 ≤ pW_i ∧ pW_i ≤ 9)) ∨ (u = 0 ∧ ¬ (0 ≤ pK_i ∧ pK_i < v_x_kilometres_i ∧ -5 ≤ pR_i ∧ pR_i ≤ 10 ∧ -3 ≤ pW_i ∧ pW_i ≤ 9))) ∧ (zr g_x_rises 30 (-5) (10)) ∧ va_P (dC, dI) vwCl [(h0, .inr (6, [.int v_x_kilometres, .ref x_rises, .ref x_winds, .int v_x_primes, .ref x_primeMetres, .int v_x_crashMetre, .int v_x_crashPart])), (x_rises, .inl (cI, 30, .inl g_x_rises)), (x_winds, .inl (cI, 30, .inl g_x_winds))] t.heap ∧ va_K (dC, dI) vwCl [(cI, .int), (cZ, .boolean)] t ∧ va_D (va_A [(h0, .inr (6, [.int v_x_kilometres, .ref x_rises, .ref x_winds, .int v_x_primes, .ref x_primeMetres, .int v_x_crashMetre, .int v_x_crashPart])), (x_rises, .inl (cI, 30, .inl f_x_rises)), (x_winds, .inl (cI, 30, .inl f_x_winds))] sz) [(h0, .inr (6, [.int v_x_kilometres, .ref x_rises, .ref x_winds, .int v_x_primes, .ref x_primeMetres, .int v_x_crashMetre, .int v_x_crashPart])), (x_rises, .inl (cI, 30, .inl g_x_rises)), (x_winds, .inl (cI, 30, .inl g_x_winds))]) (va_A [(h0, .inr (6, [.int v_x_kilometres, .ref x_rises, .ref x_winds, .int v_x_primes, .ref x_primeMetres, .int v_x_crashMetre, .int v_x_crashPart])), (x_rises, .inl (cI, 30, .inl f_x_rises)), (x_winds, .inl (cI, 30, .inl f_x_winds))] sz)) 0 0 (va_A [(h0, .inr (6, [.int v_x_kilometres, .ref x_rises, .ref x_winds, .int v_x_primes, .ref x_primeMetres, .int v_x_crashMetre, .int v_x_crashPart])), (x_rises, .inl (cI, 30, .inl f_x_rises)), (x_winds, .inl (cI, 30, .inl f_x_winds))] sz) := by
  refine Met.ofW (cc := cX6_shape) (maxL := 4) (ret := (some .boolean)) (by decide) rfl ?_
  intro p e s m args below meth c s₁ B hml hv
  obtain ⟨rfl, hsz, hP, hK, hD0⟩ := hv
  have hx := B.exec
  have hb := B.bytes
  have hr := B.returns
  have hts := atoms_spec (ws := Cond.code yX6_shape cX6_shape 4 (some .boolean) :: lw_good) B.pre
  have hown : s.vm.findClass RX6 = some m.cls := findClass_of_methodNamed B.named
  have hlocks := B.notSynchronized
  have hiX6 : ∀ w ∈ wsX60, w ∈ (Cond.code yX6_shape cX6_shape 4 (some .boolean) :: lw_good) := fun w h => List.mem_cons_of_mem _ (zi_X6 w h)
  have hw0 := hts (.fieldLink RX6 9 "BunchRace$Road" "kilometres" "I") (List.mem_cons_of_mem _ zw_105)
  have hw1 := hts (.fieldLink RX6 15 "BunchRace$Road" "rises" "[I") (List.mem_cons_of_mem _ zw_107)
  have hw2 := hts (.fieldLink RX6 19 "BunchRace$Road" "winds" "[I") (List.mem_cons_of_mem _ zw_109)
  subst hsz
  have hD := hD0.self (sz := s.heap.size)
  generalize hAe : va_A [(h0, .inr (6, [.int v_x_kilometres, .ref x_rises, .ref x_winds, .int v_x_primes, .ref x_primeMetres, .int v_x_crashMetre, .int v_x_crashPart])), (x_rises, .inl (cI, 30, .inl f_x_rises)), (x_winds, .inl (cI, 30, .inl f_x_winds))] s.heap.size = A at hD ⊢
  have hA : ∀ q : Nat, s.heap.size ≤ q → A q := fun q h => by rw [← hAe]; exact Or.inr h
  have hS : va_S A s.heap s.heap [] := va_S.rf
  have hP : va_P (dC, dI) vwCl [(h0, .inr (6, [.int v_x_kilometres, .ref x_rises, .ref x_winds, .int v_x_primes, .ref x_primeMetres, .int v_x_crashMetre, .int v_x_crashPart])), (x_rises, .inl (cI, 30, .inl f_x_rises)), (x_winds, .inl (cI, 30, .inl f_x_winds))] s.heap := hP
  have hl := lv_entry ([.ref h0, .int pK, .int pR, .int pW]) (n := 4) (Nat.le_of_ble_eq_true rfl)
  rw [lg_entry_eq]
  generalize (lg_sl ([.ref h0, .int pK, .int pR, .int pW]) ++ List.replicate (4 - (lg_sl ([.ref h0, .int pK, .int pR, .int pW])).length) Slot.unset).toArray = ls at hl ⊢
  have hl : lv_has ls 4 [(0, .ref h0), (1, .int pK), (2, .int pR), (3, .int pW)] := hl
  refine lv_iload_n hx hb dX6_shape_0 rfl (lv_at hl 1 rfl) ?_
  refine lv_if_lt (tgt := 36) hx hb dX6_shape_1 (by decide) (fun c_1 => ?_) (fun c_1 => ?_)
  ·
    have c_1 : pK_i < (0:Int) := zz_lt pK_h (by decide) c_1
    refine lv_iconst (v := 0) hx hb dX6_shape_36 (by decide) ?_
    have hu9 : (0 : Int32).toInt = (0:Int) := (by decide)
    have hP9 := hP.sub (ws' := [(h0, .inr (6, [.int v_x_kilometres, .ref x_rises, .ref x_winds, .int v_x_primes, .ref x_primeMetres, .int v_x_crashMetre, .int v_x_crashPart])), (x_rises, .inl (cI, 30, .inl f_x_rises)), (x_winds, .inl (cI, 30, .inl f_x_winds))]) [0, 1, 2] rfl
    have hD9 := hD.sub (ws' := [(h0, .inr (6, [.int v_x_kilometres, .ref x_rises, .ref x_winds, .int v_x_primes, .ref x_primeMetres, .int v_x_crashMetre, .int v_x_crashPart])), (x_rises, .inl (cI, 30, .inl f_x_rises)), (x_winds, .inl (cI, 30, .inl f_x_winds))]) [0, 1, 2] (by decide) rfl
    have hf9_0 : ((0 : Int32) = 1 ∧ (0 ≤ pK_i ∧ pK_i < v_x_kilometres_i ∧ -5 ≤ pR_i ∧ pR_i ≤ 10 ∧ -3 ≤ pW_i ∧ pW_i ≤ 9)) ∨ ((0 : Int32) = 0 ∧ ¬ (0 ≤ pK_i ∧ pK_i < v_x_kilometres_i ∧ -5 ≤ pR_i ∧ pR_i ≤ 10 ∧ -3 ≤ pW_i ∧ pW_i ≤ 9)) := Or.inr ⟨rfl, by omega⟩
    have hf9_1 : zr f_x_rises 30 (-5) (10) := R_x_rises
    exact W.zret (v := 0) hx hb hr rfl (fun t ht hW => ⟨⟨0, 0, rfl, rfl, f_x_rises, f_x_winds, hf9_0, hf9_1, by rw [ht]; exact hP9, va_K.moved hW.alike hK, hD9⟩, hS.F ht⟩) hS.2.2 dX6_shape_37
  ·
    have c_1 : ¬ (pK_i < (0:Int)) := zz_ltn pK_h (by decide) c_1
    refine lv_iload_n hx hb dX6_shape_4 rfl (lv_at hl 1 rfl) ?_
    refine lv_aload_n hx hb dX6_shape_5 rfl (lv_at hl 0 rfl) ?_
    refine va_get (D := (dC, dI)) (ci := 6) (v := .int v_x_kilometres) (C := RX6) (T := TX6) (N := 7) hx hb hts hiX6 hown hK hP 0 rfl rfl 0 (by decide) hw0 (fun _ h9 => h9) rfl dX6_shape_6 ?_
    refine lv_icmp_ge (tgt := 36) hx hb dX6_shape_9 (by decide) (fun c_2 => ?_) (fun c_2 => ?_)
    ·
      have c_2 : v_x_kilometres_i ≤ pK_i := zz_le v_x_kilometres_h pK_h c_2
      refine lv_iconst (v := 0) hx hb dX6_shape_36 (by decide) ?_
      have hu9 : (0 : Int32).toInt = (0:Int) := (by decide)
      have hP9 := hP.sub (ws' := [(h0, .inr (6, [.int v_x_kilometres, .ref x_rises, .ref x_winds, .int v_x_primes, .ref x_primeMetres, .int v_x_crashMetre, .int v_x_crashPart])), (x_rises, .inl (cI, 30, .inl f_x_rises)), (x_winds, .inl (cI, 30, .inl f_x_winds))]) [0, 1, 2] rfl
      have hD9 := hD.sub (ws' := [(h0, .inr (6, [.int v_x_kilometres, .ref x_rises, .ref x_winds, .int v_x_primes, .ref x_primeMetres, .int v_x_crashMetre, .int v_x_crashPart])), (x_rises, .inl (cI, 30, .inl f_x_rises)), (x_winds, .inl (cI, 30, .inl f_x_winds))]) [0, 1, 2] (by decide) rfl
      have hf9_0 : ((0 : Int32) = 1 ∧ (0 ≤ pK_i ∧ pK_i < v_x_kilometres_i ∧ -5 ≤ pR_i ∧ pR_i ≤ 10 ∧ -3 ≤ pW_i ∧ pW_i ≤ 9)) ∨ ((0 : Int32) = 0 ∧ ¬ (0 ≤ pK_i ∧ pK_i < v_x_kilometres_i ∧ -5 ≤ pR_i ∧ pR_i ≤ 10 ∧ -3 ≤ pW_i ∧ pW_i ≤ 9)) := Or.inr ⟨rfl, by omega⟩
      have hf9_1 : zr f_x_rises 30 (-5) (10) := R_x_rises
      exact W.zret (v := 0) hx hb hr rfl (fun t ht hW => ⟨⟨0, 0, rfl, rfl, f_x_rises, f_x_winds, hf9_0, hf9_1, by rw [ht]; exact hP9, va_K.moved hW.alike hK, hD9⟩, hS.F ht⟩) hS.2.2 dX6_shape_37
    ·
      have c_2 : ¬ (v_x_kilometres_i ≤ pK_i) := zz_len v_x_kilometres_h pK_h c_2
      refine lv_iload_n hx hb dX6_shape_12 rfl (lv_at hl 2 rfl) ?_
      refine lv_bipush (v := (-5)) hx hb dX6_shape_13 (by decide) ?_
      refine lv_icmp_lt (tgt := 36) hx hb dX6_shape_15 (by decide) (fun c_3 => ?_) (fun c_3 => ?_)
      ·
        have c_3 : pR_i < (-5:Int) := zz_lt pR_h (by decide) c_3
        refine lv_iconst (v := 0) hx hb dX6_shape_36 (by decide) ?_
        have hu9 : (0 : Int32).toInt = (0:Int) := (by decide)
        have hP9 := hP.sub (ws' := [(h0, .inr (6, [.int v_x_kilometres, .ref x_rises, .ref x_winds, .int v_x_primes, .ref x_primeMetres, .int v_x_crashMetre, .int v_x_crashPart])), (x_rises, .inl (cI, 30, .inl f_x_rises)), (x_winds, .inl (cI, 30, .inl f_x_winds))]) [0, 1, 2] rfl
        have hD9 := hD.sub (ws' := [(h0, .inr (6, [.int v_x_kilometres, .ref x_rises, .ref x_winds, .int v_x_primes, .ref x_primeMetres, .int v_x_crashMetre, .int v_x_crashPart])), (x_rises, .inl (cI, 30, .inl f_x_rises)), (x_winds, .inl (cI, 30, .inl f_x_winds))]) [0, 1, 2] (by decide) rfl
        have hf9_0 : ((0 : Int32) = 1 ∧ (0 ≤ pK_i ∧ pK_i < v_x_kilometres_i ∧ -5 ≤ pR_i ∧ pR_i ≤ 10 ∧ -3 ≤ pW_i ∧ pW_i ≤ 9)) ∨ ((0 : Int32) = 0 ∧ ¬ (0 ≤ pK_i ∧ pK_i < v_x_kilometres_i ∧ -5 ≤ pR_i ∧ pR_i ≤ 10 ∧ -3 ≤ pW_i ∧ pW_i ≤ 9)) := Or.inr ⟨rfl, by omega⟩
        have hf9_1 : zr f_x_rises 30 (-5) (10) := R_x_rises
        exact W.zret (v := 0) hx hb hr rfl (fun t ht hW => ⟨⟨0, 0, rfl, rfl, f_x_rises, f_x_winds, hf9_0, hf9_1, by rw [ht]; exact hP9, va_K.moved hW.alike hK, hD9⟩, hS.F ht⟩) hS.2.2 dX6_shape_37
      ·
        have c_3 : ¬ (pR_i < (-5:Int)) := zz_ltn pR_h (by decide) c_3
        refine lv_iload_n hx hb dX6_shape_18 rfl (lv_at hl 2 rfl) ?_
        refine lv_bipush (v := 10) hx hb dX6_shape_19 (by decide) ?_
        refine lv_icmp_gt (tgt := 36) hx hb dX6_shape_21 (by decide) (fun c_4 => ?_) (fun c_4 => ?_)
        ·
          have c_4 : (10:Int) < pR_i := zz_lt (by decide) pR_h c_4
          refine lv_iconst (v := 0) hx hb dX6_shape_36 (by decide) ?_
          have hu9 : (0 : Int32).toInt = (0:Int) := (by decide)
          have hP9 := hP.sub (ws' := [(h0, .inr (6, [.int v_x_kilometres, .ref x_rises, .ref x_winds, .int v_x_primes, .ref x_primeMetres, .int v_x_crashMetre, .int v_x_crashPart])), (x_rises, .inl (cI, 30, .inl f_x_rises)), (x_winds, .inl (cI, 30, .inl f_x_winds))]) [0, 1, 2] rfl
          have hD9 := hD.sub (ws' := [(h0, .inr (6, [.int v_x_kilometres, .ref x_rises, .ref x_winds, .int v_x_primes, .ref x_primeMetres, .int v_x_crashMetre, .int v_x_crashPart])), (x_rises, .inl (cI, 30, .inl f_x_rises)), (x_winds, .inl (cI, 30, .inl f_x_winds))]) [0, 1, 2] (by decide) rfl
          have hf9_0 : ((0 : Int32) = 1 ∧ (0 ≤ pK_i ∧ pK_i < v_x_kilometres_i ∧ -5 ≤ pR_i ∧ pR_i ≤ 10 ∧ -3 ≤ pW_i ∧ pW_i ≤ 9)) ∨ ((0 : Int32) = 0 ∧ ¬ (0 ≤ pK_i ∧ pK_i < v_x_kilometres_i ∧ -5 ≤ pR_i ∧ pR_i ≤ 10 ∧ -3 ≤ pW_i ∧ pW_i ≤ 9)) := Or.inr ⟨rfl, by omega⟩
          have hf9_1 : zr f_x_rises 30 (-5) (10) := R_x_rises
          exact W.zret (v := 0) hx hb hr rfl (fun t ht hW => ⟨⟨0, 0, rfl, rfl, f_x_rises, f_x_winds, hf9_0, hf9_1, by rw [ht]; exact hP9, va_K.moved hW.alike hK, hD9⟩, hS.F ht⟩) hS.2.2 dX6_shape_37
        ·
          have c_4 : ¬ ((10:Int) < pR_i) := zz_ltn (by decide) pR_h c_4
          refine lv_iload_n hx hb dX6_shape_24 rfl (lv_at hl 3 rfl) ?_
          refine lv_bipush (v := (-3)) hx hb dX6_shape_25 (by decide) ?_
          refine lv_icmp_lt (tgt := 36) hx hb dX6_shape_27 (by decide) (fun c_5 => ?_) (fun c_5 => ?_)
          ·
            have c_5 : pW_i < (-3:Int) := zz_lt pW_h (by decide) c_5
            refine lv_iconst (v := 0) hx hb dX6_shape_36 (by decide) ?_
            have hu9 : (0 : Int32).toInt = (0:Int) := (by decide)
            have hP9 := hP.sub (ws' := [(h0, .inr (6, [.int v_x_kilometres, .ref x_rises, .ref x_winds, .int v_x_primes, .ref x_primeMetres, .int v_x_crashMetre, .int v_x_crashPart])), (x_rises, .inl (cI, 30, .inl f_x_rises)), (x_winds, .inl (cI, 30, .inl f_x_winds))]) [0, 1, 2] rfl
            have hD9 := hD.sub (ws' := [(h0, .inr (6, [.int v_x_kilometres, .ref x_rises, .ref x_winds, .int v_x_primes, .ref x_primeMetres, .int v_x_crashMetre, .int v_x_crashPart])), (x_rises, .inl (cI, 30, .inl f_x_rises)), (x_winds, .inl (cI, 30, .inl f_x_winds))]) [0, 1, 2] (by decide) rfl
            have hf9_0 : ((0 : Int32) = 1 ∧ (0 ≤ pK_i ∧ pK_i < v_x_kilometres_i ∧ -5 ≤ pR_i ∧ pR_i ≤ 10 ∧ -3 ≤ pW_i ∧ pW_i ≤ 9)) ∨ ((0 : Int32) = 0 ∧ ¬ (0 ≤ pK_i ∧ pK_i < v_x_kilometres_i ∧ -5 ≤ pR_i ∧ pR_i ≤ 10 ∧ -3 ≤ pW_i ∧ pW_i ≤ 9)) := Or.inr ⟨rfl, by omega⟩
            have hf9_1 : zr f_x_rises 30 (-5) (10) := R_x_rises
            exact W.zret (v := 0) hx hb hr rfl (fun t ht hW => ⟨⟨0, 0, rfl, rfl, f_x_rises, f_x_winds, hf9_0, hf9_1, by rw [ht]; exact hP9, va_K.moved hW.alike hK, hD9⟩, hS.F ht⟩) hS.2.2 dX6_shape_37
          ·
            have c_5 : ¬ (pW_i < (-3:Int)) := zz_ltn pW_h (by decide) c_5
            refine lv_iload_n hx hb dX6_shape_30 rfl (lv_at hl 3 rfl) ?_
            refine lv_bipush (v := 9) hx hb dX6_shape_31 (by decide) ?_
            refine lv_icmp_le (tgt := 38) hx hb dX6_shape_33 (by decide) (fun c_6 => ?_) (fun c_6 => ?_)
            ·
              have c_6 : pW_i ≤ (9:Int) := zz_le pW_h (by decide) c_6
              refine lv_aload_n hx hb dX6_shape_38 rfl (lv_at hl 0 rfl) ?_
              refine va_get (D := (dC, dI)) (ci := 6) (v := .ref x_rises) (C := RX6) (T := TX6) (N := 7) hx hb hts hiX6 hown hK hP 0 rfl rfl 1 (by decide) hw1 (fun _ h9 => h9) rfl dX6_shape_39 ?_
              refine lv_iload_n hx hb dX6_shape_42 rfl (lv_at hl 1 rfl) ?_
              refine lv_iload_n hx hb dX6_shape_43 rfl (lv_at hl 2 rfl) ?_
              refine va_iast hx hb hK hP hD hS 1 0 rfl rfl (zz_in (a := pK_i) pK_h (by omega) (by omega)) dX6_shape_44 (fun H locs hP hD hS => ?_)
              have hP : va_P (dC, dI) vwCl [(h0, .inr (6, [.int v_x_kilometres, .ref x_rises, .ref x_winds, .int v_x_primes, .ref x_primeMetres, .int v_x_crashMetre, .int v_x_crashPart])), (x_rises, .inl (cI, 30, .inl (upd f_x_rises (Int32.toNatClampNeg pK) pR))), (x_winds, .inl (cI, 30, .inl f_x_winds))] H := hP
              have hD : va_D A [(h0, .inr (6, [.int v_x_kilometres, .ref x_rises, .ref x_winds, .int v_x_primes, .ref x_primeMetres, .int v_x_crashMetre, .int v_x_crashPart])), (x_rises, .inl (cI, 30, .inl (upd f_x_rises (Int32.toNatClampNeg pK) pR))), (x_winds, .inl (cI, 30, .inl f_x_winds))] := hD
              have R_8 : zr (upd f_x_rises (Int32.toNatClampNeg pK) pR) 30 (-5) (10) := zr_upd (b := pR_i) R_x_rises _ pR_h (by omega) (by omega)
              generalize upd f_x_rises (Int32.toNatClampNeg pK) pR = f_7 at hP hD R_8
              refine lv_aload_n hx hb dX6_shape_45 rfl (lv_at hl 0 rfl) ?_
              refine va_get (D := (dC, dI)) (ci := 6) (v := .ref x_winds) (C := RX6) (T := TX6) (N := 7) hx hb hts hiX6 hown hK hP 0 rfl rfl 2 (by decide) hw2 (fun _ h9 => h9) rfl dX6_shape_46 ?_
              refine lv_iload_n hx hb dX6_shape_49 rfl (lv_at hl 1 rfl) ?_
              refine lv_iload_n hx hb dX6_shape_50 rfl (lv_at hl 3 rfl) ?_
              refine va_iast hx hb hK hP hD hS 2 0 rfl rfl (zz_in (a := pK_i) pK_h (by omega) (by omega)) dX6_shape_51 (fun H locs hP hD hS => ?_)
              have hP : va_P (dC, dI) vwCl [(h0, .inr (6, [.int v_x_kilometres, .ref x_rises, .ref x_winds, .int v_x_primes, .ref x_primeMetres, .int v_x_crashMetre, .int v_x_crashPart])), (x_rises, .inl (cI, 30, .inl f_7)), (x_winds, .inl (cI, 30, .inl (upd f_x_winds (Int32.toNatClampNeg pK) pW)))] H := hP
              have hD : va_D A [(h0, .inr (6, [.int v_x_kilometres, .ref x_rises, .ref x_winds, .int v_x_primes, .ref x_primeMetres, .int v_x_crashMetre, .int v_x_crashPart])), (x_rises, .inl (cI, 30, .inl f_7)), (x_winds, .inl (cI, 30, .inl (upd f_x_winds (Int32.toNatClampNeg pK) pW)))] := hD
              generalize upd f_x_winds (Int32.toNatClampNeg pK) pW = f_9 at hP hD
              refine lv_iconst (v := 1) hx hb dX6_shape_52 (by decide) ?_
              have hu9 : (1 : Int32).toInt = (1:Int) := (by decide)
              have hP9 := hP.sub (ws' := [(h0, .inr (6, [.int v_x_kilometres, .ref x_rises, .ref x_winds, .int v_x_primes, .ref x_primeMetres, .int v_x_crashMetre, .int v_x_crashPart])), (x_rises, .inl (cI, 30, .inl f_7)), (x_winds, .inl (cI, 30, .inl f_9))]) [0, 1, 2] rfl
              have hD9 := hD.sub (ws' := [(h0, .inr (6, [.int v_x_kilometres, .ref x_rises, .ref x_winds, .int v_x_primes, .ref x_primeMetres, .int v_x_crashMetre, .int v_x_crashPart])), (x_rises, .inl (cI, 30, .inl f_7)), (x_winds, .inl (cI, 30, .inl f_9))]) [0, 1, 2] (by decide) rfl
              have hf9_0 : ((1 : Int32) = 1 ∧ (0 ≤ pK_i ∧ pK_i < v_x_kilometres_i ∧ -5 ≤ pR_i ∧ pR_i ≤ 10 ∧ -3 ≤ pW_i ∧ pW_i ≤ 9)) ∨ ((1 : Int32) = 0 ∧ ¬ (0 ≤ pK_i ∧ pK_i < v_x_kilometres_i ∧ -5 ≤ pR_i ∧ pR_i ≤ 10 ∧ -3 ≤ pW_i ∧ pW_i ≤ 9)) := Or.inl ⟨rfl, by omega⟩
              have hf9_1 : zr f_7 30 (-5) (10) := R_8
              exact W.zret (v := 1) hx hb hr rfl (fun t ht hW => ⟨⟨1, 1, rfl, rfl, f_7, f_9, hf9_0, hf9_1, by rw [ht]; exact hP9, va_K.moved hW.alike hK, hD9⟩, hS.F ht⟩) hS.2.2 dX6_shape_53
            ·
              have c_6 : ¬ (pW_i ≤ (9:Int)) := zz_len pW_h (by decide) c_6
              refine lv_iconst (v := 0) hx hb dX6_shape_36 (by decide) ?_
              have hu9 : (0 : Int32).toInt = (0:Int) := (by decide)
              have hP9 := hP.sub (ws' := [(h0, .inr (6, [.int v_x_kilometres, .ref x_rises, .ref x_winds, .int v_x_primes, .ref x_primeMetres, .int v_x_crashMetre, .int v_x_crashPart])), (x_rises, .inl (cI, 30, .inl f_x_rises)), (x_winds, .inl (cI, 30, .inl f_x_winds))]) [0, 1, 2] rfl
              have hD9 := hD.sub (ws' := [(h0, .inr (6, [.int v_x_kilometres, .ref x_rises, .ref x_winds, .int v_x_primes, .ref x_primeMetres, .int v_x_crashMetre, .int v_x_crashPart])), (x_rises, .inl (cI, 30, .inl f_x_rises)), (x_winds, .inl (cI, 30, .inl f_x_winds))]) [0, 1, 2] (by decide) rfl
              have hf9_0 : ((0 : Int32) = 1 ∧ (0 ≤ pK_i ∧ pK_i < v_x_kilometres_i ∧ -5 ≤ pR_i ∧ pR_i ≤ 10 ∧ -3 ≤ pW_i ∧ pW_i ≤ 9)) ∨ ((0 : Int32) = 0 ∧ ¬ (0 ≤ pK_i ∧ pK_i < v_x_kilometres_i ∧ -5 ≤ pR_i ∧ pR_i ≤ 10 ∧ -3 ≤ pW_i ∧ pW_i ≤ 9)) := Or.inr ⟨rfl, by omega⟩
              have hf9_1 : zr f_x_rises 30 (-5) (10) := R_x_rises
              exact W.zret (v := 0) hx hb hr rfl (fun t ht hW => ⟨⟨0, 0, rfl, rfl, f_x_rises, f_x_winds, hf9_0, hf9_1, by rw [ht]; exact hP9, va_K.moved hW.alike hK, hD9⟩, hS.F ht⟩) hS.2.2 dX6_shape_37

set_option maxHeartbeats 8000000 in
set_option maxRecDepth 100000 in
theorem c_X6_addPrime (l : Launch) (dC : Nat → ClassId) (dI : Nat → Nat → Nat) (cI cZ : ClassId) (sz : Nat) (h0 : Nat) (pM : Int32) (pM_i : Int) (pM_h : pM.toInt = pM_i) (v_x_kilometres : Int32) (v_x_kilometres_i : Int) (v_x_kilometres_h : v_x_kilometres.toInt = v_x_kilometres_i) (B_v_x_kilometres : 1 ≤ v_x_kilometres_i ∧ v_x_kilometres_i ≤ 30) (x_rises : Nat) (x_winds : Nat) (v_x_primes : Int32) (v_x_primes_i : Int) (v_x_primes_h : v_x_primes.toInt = v_x_primes_i) (B_v_x_primes : 0 ≤ v_x_primes_i ∧ v_x_primes_i ≤ 5) (x_primeMetres : Nat) (v_x_crashMetre : Int32) (v_x_crashMetre_i : Int) (v_x_crashMetre_h : v_x_crashMetre.toInt = v_x_crashMetre_i) (v_x_crashPart : Int32) (v_x_crashPart_i : Int) (v_x_crashPart_h : v_x_crashPart.toInt = v_x_crashPart_i) (f_x_primeMetres : Nat → Int32) : Met l yX6_addPrime (Cond.code yX6_addPrime cX6_addPrime 2 (some .int) :: lw_good) ({ frames := 2, cells := 0, slots := 0, locals := 41 }) (va_Pc [.ref h0, .int pM] (fun U => U.heap.size = sz ∧ va_P (dC, dI) vwCl [(h0, .inr (6, [.int v_x_kilometres, .ref x_rises, .ref x_winds, .int v_x_primes, .ref x_primeMetres, .int v_x_crashMetre, .int v_x_crashPart])), (x_primeMetres, .inl (cI, 5, .inl f_x_primeMetres))] U.heap ∧ va_K (dC, dI) vwCl [(cI, .int), (cZ, .boolean)] U ∧ va_D (fun _ => True) [(h0, .inr (6, [.int v_x_kilometres, .ref x_rises, .ref x_winds, .int v_x_primes, .ref x_primeMetres, .int v_x_crashMetre, .int v_x_crashPart])), (x_primeMetres, .inl (cI, 5, .inl f_x_primeMetres))])) (va_Qi (fun (r u : Int32) => r = u) (fun u t => ∃ (w_h0_primes : Int32) (g_x_primeMetres : Nat → Int32), (((1 ≤ pM_i ∧ pM_i < v_x_kilometres_i * 1000 ∧ v_x_primes_i < 5) ∧ u.toInt = v_x_primes_i ∧ w_h0_primes.toInt = v_x_primes_i + 1) ∨ (¬ (1 ≤ pM_i ∧ pM_i < v_x_kilometres_i * 1000 ∧ v_x_primes_i < 5) ∧ u.toInt = -1 ∧ w_h0_primes.toInt = v_x_primes_i)) ∧ (0 ≤ w_h0_primes.toInt ∧ w_h0_primes.toInt ≤ 5) ∧ va_P (dC, dI) vwCl [(h0, .inr (6, [.int v_x_kilometres, .ref x_rises, .ref x_winds, .int w_h0_primes, .ref x_primeMetres, .int v_x_crashMetre, .int v_x_crashPart])), (x_primeMetres, .inl (cI, 5, .inl g_x_primeMetres))] t.heap ∧ va_K (dC, dI) vwCl [(cI, .int), (cZ, .boolean)] t ∧ va_D (va_A [(h0, .inr (6, [.int v_x_kilometres, .ref x_rises, .ref x_winds, .int v_x_primes, .ref x_primeMetres, .int v_x_crashMetre, .int v_x_crashPart])), (x_primeMetres, .inl (cI, 5, .inl f_x_primeMetres))] sz) [(h0, .inr (6, [.int v_x_kilometres, .ref x_rises, .ref x_winds, .int w_h0_primes, .ref x_primeMetres, .int v_x_crashMetre, .int v_x_crashPart])), (x_primeMetres, .inl (cI, 5, .inl g_x_primeMetres))]) (va_A [(h0, .inr (6, [.int v_x_kilometres, .ref x_rises, .ref x_winds, .int v_x_primes, .ref x_primeMetres, .int v_x_crashMetre, .int v_x_crashPart])), (x_primeMetres, .inl (cI, 5, .inl f_x_primeMetres))] sz)) 0 0 (va_A [(h0, .inr (6, [.int v_x_kilometres, .ref x_rises, .ref x_winds, .int v_x_primes, .ref x_primeMetres, .int v_x_crashMetre, .int v_x_crashPart])), (x_primeMetres, .inl (cI, 5, .inl f_x_primeMetres))] sz) := by
  refine Met.ofW (cc := cX6_addPrime) (maxL := 2) (ret := (some .int)) (by decide) rfl ?_
  intro p e s m args below meth c s₁ B hml hv
  obtain ⟨rfl, hsz, hP, hK, hD0⟩ := hv
  have hx := B.exec
  have hb := B.bytes
  have hr := B.returns
  have hts := atoms_spec (ws := Cond.code yX6_addPrime cX6_addPrime 2 (some .int) :: lw_good) B.pre
  have hown : s.vm.findClass RX6 = some m.cls := findClass_of_methodNamed B.named
  have hlocks := B.notSynchronized
  have hiX6 : ∀ w ∈ wsX60, w ∈ (Cond.code yX6_addPrime cX6_addPrime 2 (some .int) :: lw_good) := fun w h => List.mem_cons_of_mem _ (zi_X6 w h)
  have hw0 := hts (.fieldLink RX6 22 "BunchRace$Road" "primes" "I") (List.mem_cons_of_mem _ zw_111)
  have hw1 := hts (.initialized RX6) (List.mem_cons_of_mem _ zw_50)
  have hw2 := hts (.methodLink RX6 38 yX6_isBetweenEnds) (List.mem_cons_of_mem _ zw_406)
  have hw3 := hts (.instanceMethod yX6_isBetweenEnds) (List.mem_cons_of_mem _ zw_407)
  have hw4 := hts (.selects RX6 yX6_isBetweenEnds yX6_isBetweenEnds) (List.mem_cons_of_mem _ zw_408)
  have hw5 := hts (.fieldLink RX6 25 "BunchRace$Road" "primeMetres" "[I") (List.mem_cons_of_mem _ zw_114)
  subst hsz
  have hD := hD0.self (sz := s.heap.size)
  generalize hAe : va_A [(h0, .inr (6, [.int v_x_kilometres, .ref x_rises, .ref x_winds, .int v_x_primes, .ref x_primeMetres, .int v_x_crashMetre, .int v_x_crashPart])), (x_primeMetres, .inl (cI, 5, .inl f_x_primeMetres))] s.heap.size = A at hD ⊢
  have hA : ∀ q : Nat, s.heap.size ≤ q → A q := fun q h => by rw [← hAe]; exact Or.inr h
  have hS : va_S A s.heap s.heap [] := va_S.rf
  have hP : va_P (dC, dI) vwCl [(h0, .inr (6, [.int v_x_kilometres, .ref x_rises, .ref x_winds, .int v_x_primes, .ref x_primeMetres, .int v_x_crashMetre, .int v_x_crashPart])), (x_primeMetres, .inl (cI, 5, .inl f_x_primeMetres))] s.heap := hP
  have hl := lv_entry ([.ref h0, .int pM]) (n := 2) (Nat.le_of_ble_eq_true rfl)
  rw [lg_entry_eq]
  generalize (lg_sl ([.ref h0, .int pM]) ++ List.replicate (2 - (lg_sl ([.ref h0, .int pM])).length) Slot.unset).toArray = ls at hl ⊢
  have hl : lv_has ls 2 [(0, .ref h0), (1, .int pM)] := hl
  refine lv_aload_n hx hb dX6_addPrime_0 rfl (lv_at hl 0 rfl) ?_
  refine va_get (D := (dC, dI)) (ci := 6) (v := .int v_x_primes) (C := RX6) (T := TX6) (N := 7) hx hb hts hiX6 hown hK hP 0 rfl rfl 3 (by decide) hw0 (fun _ h9 => h9) rfl dX6_addPrime_1 ?_
  refine lv_iconst (v := 5) hx hb dX6_addPrime_4 (by decide) ?_
  refine lv_icmp_ge (tgt := 16) hx hb dX6_addPrime_5 (by decide) (fun c_1 => ?_) (fun c_1 => ?_)
  ·
    have c_1 : (5:Int) ≤ v_x_primes_i := zz_le (by decide) v_x_primes_h c_1
    refine lv_iconst (v := (-1)) hx hb dX6_addPrime_16 (by decide) ?_
    have hu9 : ((-1) : Int32).toInt = (-1:Int) := (by decide)
    have hx9_w_h0_primes : (v_x_primes : Int32).toInt = v_x_primes_i := v_x_primes_h
    have hP9 := hP.sub (ws' := [(h0, .inr (6, [.int v_x_kilometres, .ref x_rises, .ref x_winds, .int v_x_primes, .ref x_primeMetres, .int v_x_crashMetre, .int v_x_crashPart])), (x_primeMetres, .inl (cI, 5, .inl f_x_primeMetres))]) [0, 1] rfl
    have hD9 := hD.sub (ws' := [(h0, .inr (6, [.int v_x_kilometres, .ref x_rises, .ref x_winds, .int v_x_primes, .ref x_primeMetres, .int v_x_crashMetre, .int v_x_crashPart])), (x_primeMetres, .inl (cI, 5, .inl f_x_primeMetres))]) [0, 1] (by decide) rfl
    have hf9_0 : ((1 ≤ pM_i ∧ pM_i < v_x_kilometres_i * 1000 ∧ v_x_primes_i < 5) ∧ ((-1) : Int32).toInt = v_x_primes_i ∧ v_x_primes.toInt = v_x_primes_i + 1) ∨ (¬ (1 ≤ pM_i ∧ pM_i < v_x_kilometres_i * 1000 ∧ v_x_primes_i < 5) ∧ ((-1) : Int32).toInt = -1 ∧ v_x_primes.toInt = v_x_primes_i) := by omega
    have hf9_1 : 0 ≤ v_x_primes.toInt ∧ v_x_primes.toInt ≤ 5 := by omega
    exact W.iret (v := (-1)) hx hb hr (fun t ht hW => ⟨⟨(-1), (-1), rfl, rfl, v_x_primes, f_x_primeMetres, hf9_0, hf9_1, by rw [ht]; exact hP9, va_K.moved hW.alike hK, hD9⟩, hS.F ht⟩) hS.2.2 dX6_addPrime_17
  ·
    have c_1 : ¬ ((5:Int) ≤ v_x_primes_i) := zz_len (by decide) v_x_primes_h c_1
    refine lv_aload_n hx hb dX6_addPrime_8 rfl (lv_at hl 0 rfl) ?_
    refine lv_iload_n hx hb dX6_addPrime_9 rfl (lv_at hl 1 rfl) ?_
    have hPc := hP.sub (ws' := [(h0, .inr (6, [.int v_x_kilometres, .ref x_rises, .ref x_winds, .int v_x_primes, .ref x_primeMetres, .int v_x_crashMetre, .int v_x_crashPart]))]) [0] rfl
    have hDc := hD.sub (ws' := [(h0, .inr (6, [.int v_x_kilometres, .ref x_rises, .ref x_winds, .int v_x_primes, .ref x_primeMetres, .int v_x_crashMetre, .int v_x_crashPart]))]) [0] (by decide) rfl
    have hFc := va_free (wc := [(h0, .inr (6, [.int v_x_kilometres, .ref x_rises, .ref x_winds, .int v_x_primes, .ref x_primeMetres, .int v_x_crashMetre, .int v_x_crashPart]))]) hD hS hA [0] rfl
    refine va_calli (va_runV (As := [.int pM]) (rest := []) ⟨hx, hb, hml, hown, hts⟩ (c_X6_isBetweenEnds l dC dI cI cZ (s.heap).size h0 pM pM_i pM_h v_x_kilometres v_x_kilometres_i v_x_kilometres_h (by omega) x_rises x_winds v_x_primes v_x_primes_i v_x_primes_h (by omega) x_primeMetres v_x_crashMetre v_x_crashMetre_i v_x_crashMetre_h v_x_crashPart v_x_crashPart_i v_x_crashPart_h) ⟨callB_of 1 hts (zz_good zw_409) rfl rfl rfl hw1 hw2 (by decide +kernel) ⟨Nat.le_of_ble_eq_true rfl, Nat.le_of_ble_eq_true rfl⟩, hw3, hw4⟩ ⟨fun a U g mk q => by obtain ⟨q0, q1, qP, qK, qD⟩ := q; exact ⟨q0, q1, qP, va_K.moved (u := U) (U := U.calling g mk a) (Vm.Alike.refl U.vm) qK, qD⟩, va_recv hK hPc (ci := 6) (q0 := 0) rfl rfl, fun U hU hW => ⟨rfl, by rw [hU], by rw [hU]; exact hPc, va_K.moved hW.alike hK, hDc.weaken (fun _ _ _ _ => trivial)⟩⟩ rfl rfl hl.1 rfl (lv_room (Nat.le_of_ble_eq_true rfl)) dX6_addPrime_10 ⟨Nat.le_of_ble_eq_true rfl, Nat.le_of_ble_eq_true rfl⟩) hS (fun q _ h => hFc q h) hFc (fun r_2 u t H1 locs ht hvm hpost hB hz1 hk1 hS => ?_)
    subst hpost
    obtain ⟨hf_3, hP1, hK1, hD1⟩ := hB
    rw [ht] at hP1
    obtain ⟨hP, hD⟩ := va_join (wr := [(x_primeMetres, .inl (cI, 5, .inl f_x_primeMetres))]) (w1 := [(h0, .inr (6, [.int v_x_kilometres, .ref x_rises, .ref x_winds, .int v_x_primes, .ref x_primeMetres, .int v_x_crashMetre, .int v_x_crashPart]))]) hP hD [0] [1] rfl rfl (by decide) (by decide) hk1 hFc hP1 hD1
    generalize H1 = H at hP hS ⊢
    have hP : va_P (dC, dI) vwCl [(x_primeMetres, .inl (cI, 5, .inl f_x_primeMetres)), (h0, .inr (6, [.int v_x_kilometres, .ref x_rises, .ref x_winds, .int v_x_primes, .ref x_primeMetres, .int v_x_crashMetre, .int v_x_crashPart]))] H := hP
    have hD : va_D A [(x_primeMetres, .inl (cI, 5, .inl f_x_primeMetres)), (h0, .inr (6, [.int v_x_kilometres, .ref x_rises, .ref x_winds, .int v_x_primes, .ref x_primeMetres, .int v_x_crashMetre, .int v_x_crashPart]))] := hD
    have hf_3 : (r_2 = 1 ∧ (1 ≤ pM_i ∧ pM_i < v_x_kilometres_i * 1000)) ∨ (r_2 = 0 ∧ ¬ (1 ≤ pM_i ∧ pM_i < v_x_kilometres_i * 1000)) := hf_3
    rcases hf_3 with ⟨rfl, hf_3⟩ | ⟨rfl, hf_3⟩
    ·
      refine lv_if_ne (tgt := 18) hx hb dX6_addPrime_13 (by decide) (fun c_4 => ?_) (fun c_4 => ?_)
      ·
        refine lv_aload_n hx hb dX6_addPrime_18 rfl (lv_at hl 0 rfl) ?_
        refine va_get (D := (dC, dI)) (ci := 6) (v := .ref x_primeMetres) (C := RX6) (T := TX6) (N := 7) hx hb hts hiX6 hown hK hP 1 rfl rfl 4 (by decide) hw5 (fun _ h9 => h9) rfl dX6_addPrime_19 ?_
        refine lv_aload_n hx hb dX6_addPrime_22 rfl (lv_at hl 0 rfl) ?_
        refine va_get (D := (dC, dI)) (ci := 6) (v := .int v_x_primes) (C := RX6) (T := TX6) (N := 7) hx hb hts hiX6 hown hK hP 1 rfl rfl 3 (by decide) hw0 (fun _ h9 => h9) rfl dX6_addPrime_23 ?_
        refine lv_iload_n hx hb dX6_addPrime_26 rfl (lv_at hl 1 rfl) ?_
        refine va_iast hx hb hK hP hD hS 0 0 rfl rfl (zz_in (a := v_x_primes_i) v_x_primes_h (by omega) (by omega)) dX6_addPrime_27 (fun H locs hP hD hS => ?_)
        have hP : va_P (dC, dI) vwCl [(x_primeMetres, .inl (cI, 5, .inl (upd f_x_primeMetres (Int32.toNatClampNeg v_x_primes) pM))), (h0, .inr (6, [.int v_x_kilometres, .ref x_rises, .ref x_winds, .int v_x_primes, .ref x_primeMetres, .int v_x_crashMetre, .int v_x_crashPart]))] H := hP
        have hD : va_D A [(x_primeMetres, .inl (cI, 5, .inl (upd f_x_primeMetres (Int32.toNatClampNeg v_x_primes) pM))), (h0, .inr (6, [.int v_x_kilometres, .ref x_rises, .ref x_winds, .int v_x_primes, .ref x_primeMetres, .int v_x_crashMetre, .int v_x_crashPart]))] := hD
        generalize upd f_x_primeMetres (Int32.toNatClampNeg v_x_primes) pM = f_5 at hP hD
        refine lv_aload_n hx hb dX6_addPrime_28 rfl (lv_at hl 0 rfl) ?_
        refine lv_dup hx hb dX6_addPrime_29 rfl ?_
        refine va_get (D := (dC, dI)) (ci := 6) (v := .int v_x_primes) (C := RX6) (T := TX6) (N := 7) hx hb hts hiX6 hown hK hP 1 rfl rfl 3 (by decide) hw0 (fun _ h9 => h9) rfl dX6_addPrime_30 ?_
        refine lv_iconst (v := 1) hx hb dX6_addPrime_33 (by decide) ?_
        refine lv_iadd hx hb dX6_addPrime_34 ?_
        refine lv_topi (fun v_6 ev_6 => ?_)
        have hv_6 : v_6.toInt = (v_x_primes_i + (1:Int)) := by rw [ev_6]; exact zz_addI v_x_primes_h (by decide) (by omega) (by omega)
        refine va_put (D := (dC, dI)) (ci := 6) (v := .int v_6) (ty := .int) (C := RX6) (T := TX6) (N := 7) hx hb hts hiX6 tyX6 tyX6_ok nmX6 hown hK hP hD hS 1 rfl rfl 3 (by decide) hw0 (fun _ h9 => h9) rfl (by decide +kernel) rfl rfl (Nat.le_of_ble_eq_true rfl) dX6_addPrime_35 (fun H locs hP hD hS => ?_)
        have hP : va_P (dC, dI) vwCl [(x_primeMetres, .inl (cI, 5, .inl f_5)), (h0, .inr (6, [.int v_x_kilometres, .ref x_rises, .ref x_winds, .int v_6, .ref x_primeMetres, .int v_x_crashMetre, .int v_x_crashPart]))] H := hP
        have hD : va_D A [(x_primeMetres, .inl (cI, 5, .inl f_5)), (h0, .inr (6, [.int v_x_kilometres, .ref x_rises, .ref x_winds, .int v_6, .ref x_primeMetres, .int v_x_crashMetre, .int v_x_crashPart]))] := hD
        refine lv_aload_n hx hb dX6_addPrime_38 rfl (lv_at hl 0 rfl) ?_
        refine va_get (D := (dC, dI)) (ci := 6) (v := .int v_6) (C := RX6) (T := TX6) (N := 7) hx hb hts hiX6 hown hK hP 1 rfl rfl 3 (by decide) hw0 (fun _ h9 => h9) rfl dX6_addPrime_39 ?_
        refine lv_iconst (v := 1) hx hb dX6_addPrime_42 (by decide) ?_
        refine lv_isub hx hb dX6_addPrime_43 ?_
        refine lv_topi (fun v_7 ev_7 => ?_)
        have hv_7 : v_7.toInt = ((v_x_primes_i + (1:Int)) - (1:Int)) := by rw [ev_7]; exact zz_subI hv_6 (by decide) (by omega) (by omega)
        have hu9 : (v_7 : Int32).toInt = ((v_x_primes_i + (1:Int)) - (1:Int)) := hv_7
        have hx9_w_h0_primes : (v_6 : Int32).toInt = (v_x_primes_i + (1:Int)) := hv_6
        have hP9 := hP.sub (ws' := [(h0, .inr (6, [.int v_x_kilometres, .ref x_rises, .ref x_winds, .int v_6, .ref x_primeMetres, .int v_x_crashMetre, .int v_x_crashPart])), (x_primeMetres, .inl (cI, 5, .inl f_5))]) [1, 0] rfl
        have hD9 := hD.sub (ws' := [(h0, .inr (6, [.int v_x_kilometres, .ref x_rises, .ref x_winds, .int v_6, .ref x_primeMetres, .int v_x_crashMetre, .int v_x_crashPart])), (x_primeMetres, .inl (cI, 5, .inl f_5))]) [1, 0] (by decide) rfl
        have hf9_0 : ((1 ≤ pM_i ∧ pM_i < v_x_kilometres_i * 1000 ∧ v_x_primes_i < 5) ∧ v_7.toInt = v_x_primes_i ∧ v_6.toInt = v_x_primes_i + 1) ∨ (¬ (1 ≤ pM_i ∧ pM_i < v_x_kilometres_i * 1000 ∧ v_x_primes_i < 5) ∧ v_7.toInt = -1 ∧ v_6.toInt = v_x_primes_i) := by omega
        have hf9_1 : 0 ≤ v_6.toInt ∧ v_6.toInt ≤ 5 := by omega
        exact W.iret (v := v_7) hx hb hr (fun t ht hW => ⟨⟨v_7, v_7, rfl, rfl, v_6, f_5, hf9_0, hf9_1, by rw [ht]; exact hP9, va_K.moved hW.alike hK, hD9⟩, hS.F ht⟩) hS.2.2 dX6_addPrime_44
      ·
        exact absurd c_4 (by decide)
    ·
      refine lv_if_ne (tgt := 18) hx hb dX6_addPrime_13 (by decide) (fun c_8 => ?_) (fun c_8 => ?_)
      ·
        exact absurd c_8 (by decide)
      ·
        refine lv_iconst (v := (-1)) hx hb dX6_addPrime_16 (by decide) ?_
        have hu9 : ((-1) : Int32).toInt = (-1:Int) := (by decide)
        have hx9_w_h0_primes : (v_x_primes : Int32).toInt = v_x_primes_i := v_x_primes_h
        have hP9 := hP.sub (ws' := [(h0, .inr (6, [.int v_x_kilometres, .ref x_rises, .ref x_winds, .int v_x_primes, .ref x_primeMetres, .int v_x_crashMetre, .int v_x_crashPart])), (x_primeMetres, .inl (cI, 5, .inl f_x_primeMetres))]) [1, 0] rfl
        have hD9 := hD.sub (ws' := [(h0, .inr (6, [.int v_x_kilometres, .ref x_rises, .ref x_winds, .int v_x_primes, .ref x_primeMetres, .int v_x_crashMetre, .int v_x_crashPart])), (x_primeMetres, .inl (cI, 5, .inl f_x_primeMetres))]) [1, 0] (by decide) rfl
        have hf9_0 : ((1 ≤ pM_i ∧ pM_i < v_x_kilometres_i * 1000 ∧ v_x_primes_i < 5) ∧ ((-1) : Int32).toInt = v_x_primes_i ∧ v_x_primes.toInt = v_x_primes_i + 1) ∨ (¬ (1 ≤ pM_i ∧ pM_i < v_x_kilometres_i * 1000 ∧ v_x_primes_i < 5) ∧ ((-1) : Int32).toInt = -1 ∧ v_x_primes.toInt = v_x_primes_i) := by omega
        have hf9_1 : 0 ≤ v_x_primes.toInt ∧ v_x_primes.toInt ≤ 5 := by omega
        exact W.iret (v := (-1)) hx hb hr (fun t ht hW => ⟨⟨(-1), (-1), rfl, rfl, v_x_primes, f_x_primeMetres, hf9_0, hf9_1, by rw [ht]; exact hP9, va_K.moved hW.alike hK, hD9⟩, hS.F ht⟩) hS.2.2 dX6_addPrime_17

set_option maxHeartbeats 8000000 in
set_option maxRecDepth 100000 in
theorem c_X6_putCrash (l : Launch) (dC : Nat → ClassId) (dI : Nat → Nat → Nat) (cI cZ : ClassId) (sz : Nat) (h0 : Nat) (pM : Int32) (pM_i : Int) (pM_h : pM.toInt = pM_i) (pA : Int32) (pA_i : Int) (pA_h : pA.toInt = pA_i) (v_x_kilometres : Int32) (v_x_kilometres_i : Int) (v_x_kilometres_h : v_x_kilometres.toInt = v_x_kilometres_i) (B_v_x_kilometres : 1 ≤ v_x_kilometres_i ∧ v_x_kilometres_i ≤ 30) (x_rises : Nat) (x_winds : Nat) (v_x_primes : Int32) (v_x_primes_i : Int) (v_x_primes_h : v_x_primes.toInt = v_x_primes_i) (B_v_x_primes : 0 ≤ v_x_primes_i ∧ v_x_primes_i ≤ 5) (x_primeMetres : Nat) (v_x_crashMetre : Int32) (v_x_crashMetre_i : Int) (v_x_crashMetre_h : v_x_crashMetre.toInt = v_x_crashMetre_i) (v_x_crashPart : Int32) (v_x_crashPart_i : Int) (v_x_crashPart_h : v_x_crashPart.toInt = v_x_crashPart_i) : Met l yX6_putCrash (Cond.code yX6_putCrash cX6_putCrash 3 (some .boolean) :: lw_good) ({ frames := 2, cells := 0, slots := 0, locals := 41 }) (va_Pc [.ref h0, .int pM, .int pA] (fun U => U.heap.size = sz ∧ va_P (dC, dI) vwCl [(h0, .inr (6, [.int v_x_kilometres, .ref x_rises, .ref x_winds, .int v_x_primes, .ref x_primeMetres, .int v_x_crashMetre, .int v_x_crashPart]))] U.heap ∧ va_K (dC, dI) vwCl [(cI, .int), (cZ, .boolean)] U ∧ va_D (fun _ => True) [(h0, .inr (6, [.int v_x_kilometres, .ref x_rises, .ref x_winds, .int v_x_primes, .ref x_primeMetres, .int v_x_crashMetre, .int v_x_crashPart]))])) (va_Qi (fun (r u : Int32) => r = u) (fun u t => ∃ (w_h0_crashMetre : Int32) (w_h0_crashPart : Int32), ((u = 1 ∧ (1 ≤ pM_i ∧ pM_i < v_x_kilometres_i * 1000 ∧ 0 ≤ pA_i ∧ pA_i ≤ 100)) ∨ (u = 0 ∧ ¬ (1 ≤ pM_i ∧ pM_i < v_x_kilometres_i * 1000 ∧ 0 ≤ pA_i ∧ pA_i ≤ 100))) ∧ va_P (dC, dI) vwCl [(h0, .inr (6, [.int v_x_kilometres, .ref x_rises, .ref x_winds, .int v_x_primes, .ref x_primeMetres, .int w_h0_crashMetre, .int w_h0_crashPart]))] t.heap ∧ va_K (dC, dI) vwCl [(cI, .int), (cZ, .boolean)] t ∧ va_D (va_A [(h0, .inr (6, [.int v_x_kilometres, .ref x_rises, .ref x_winds, .int v_x_primes, .ref x_primeMetres, .int v_x_crashMetre, .int v_x_crashPart]))] sz) [(h0, .inr (6, [.int v_x_kilometres, .ref x_rises, .ref x_winds, .int v_x_primes, .ref x_primeMetres, .int w_h0_crashMetre, .int w_h0_crashPart]))]) (va_A [(h0, .inr (6, [.int v_x_kilometres, .ref x_rises, .ref x_winds, .int v_x_primes, .ref x_primeMetres, .int v_x_crashMetre, .int v_x_crashPart]))] sz)) 0 0 (va_A [(h0, .inr (6, [.int v_x_kilometres, .ref x_rises, .ref x_winds, .int v_x_primes, .ref x_primeMetres, .int v_x_crashMetre, .int v_x_crashPart]))] sz) := by
  refine Met.ofW (cc := cX6_putCrash) (maxL := 3) (ret := (some .boolean)) (by decide) rfl ?_
  intro p e s m args below meth c s₁ B hml hv
  obtain ⟨rfl, hsz, hP, hK, hD0⟩ := hv
  have hx := B.exec
  have hb := B.bytes
  have hr := B.returns
  have hts := atoms_spec (ws := Cond.code yX6_putCrash cX6_putCrash 3 (some .boolean) :: lw_good) B.pre
  have hown : s.vm.findClass RX6 = some m.cls := findClass_of_methodNamed B.named
  have hlocks := B.notSynchronized
  have hiX6 : ∀ w ∈ wsX60, w ∈ (Cond.code yX6_putCrash cX6_putCrash 3 (some .boolean) :: lw_good) := fun w h => List.mem_cons_of_mem _ (zi_X6 w h)
  have hw0 := hts (.initialized RX6) (List.mem_cons_of_mem _ zw_50)
  have hw1 := hts (.methodLink RX6 38 yX6_isBetweenEnds) (List.mem_cons_of_mem _ zw_406)
  have hw2 := hts (.instanceMethod yX6_isBetweenEnds) (List.mem_cons_of_mem _ zw_407)
  have hw3 := hts (.selects RX6 yX6_isBetweenEnds yX6_isBetweenEnds) (List.mem_cons_of_mem _ zw_408)
  have hw4 := hts (.fieldLink RX6 28 "BunchRace$Road" "crashMetre" "I") (List.mem_cons_of_mem _ zw_116)
  have hw5 := hts (.fieldLink RX6 31 "BunchRace$Road" "crashPart" "I") (List.mem_cons_of_mem _ zw_118)
  subst hsz
  have hD := hD0.self (sz := s.heap.size)
  generalize hAe : va_A [(h0, .inr (6, [.int v_x_kilometres, .ref x_rises, .ref x_winds, .int v_x_primes, .ref x_primeMetres, .int v_x_crashMetre, .int v_x_crashPart]))] s.heap.size = A at hD ⊢
  have hA : ∀ q : Nat, s.heap.size ≤ q → A q := fun q h => by rw [← hAe]; exact Or.inr h
  have hS : va_S A s.heap s.heap [] := va_S.rf
  have hP : va_P (dC, dI) vwCl [(h0, .inr (6, [.int v_x_kilometres, .ref x_rises, .ref x_winds, .int v_x_primes, .ref x_primeMetres, .int v_x_crashMetre, .int v_x_crashPart]))] s.heap := hP
  have hl := lv_entry ([.ref h0, .int pM, .int pA]) (n := 3) (Nat.le_of_ble_eq_true rfl)
  rw [lg_entry_eq]
  generalize (lg_sl ([.ref h0, .int pM, .int pA]) ++ List.replicate (3 - (lg_sl ([.ref h0, .int pM, .int pA])).length) Slot.unset).toArray = ls at hl ⊢
  have hl : lv_has ls 3 [(0, .ref h0), (1, .int pM), (2, .int pA)] := hl
  refine lv_aload_n hx hb dX6_putCrash_0 rfl (lv_at hl 0 rfl) ?_
  refine lv_iload_n hx hb dX6_putCrash_1 rfl (lv_at hl 1 rfl) ?_
  have hPc := hP.sub (ws' := [(h0, .inr (6, [.int v_x_kilometres, .ref x_rises, .ref x_winds, .int v_x_primes, .ref x_primeMetres, .int v_x_crashMetre, .int v_x_crashPart]))]) [0] rfl
  have hDc := hD.sub (ws' := [(h0, .inr (6, [.int v_x_kilometres, .ref x_rises, .ref x_winds, .int v_x_primes, .ref x_primeMetres, .int v_x_crashMetre, .int v_x_crashPart]))]) [0] (by decide) rfl
  have hFc := va_free (wc := [(h0, .inr (6, [.int v_x_kilometres, .ref x_rises, .ref x_winds, .int v_x_primes, .ref x_primeMetres, .int v_x_crashMetre, .int v_x_crashPart]))]) hD hS hA [0] rfl
  refine va_calli (va_runV (As := [.int pM]) (rest := []) ⟨hx, hb, hml, hown, hts⟩ (c_X6_isBetweenEnds l dC dI cI cZ (s.heap).size h0 pM pM_i pM_h v_x_kilometres v_x_kilometres_i v_x_kilometres_h (by omega) x_rises x_winds v_x_primes v_x_primes_i v_x_primes_h (by omega) x_primeMetres v_x_crashMetre v_x_crashMetre_i v_x_crashMetre_h v_x_crashPart v_x_crashPart_i v_x_crashPart_h) ⟨callB_of 1 hts (zz_good zw_409) rfl rfl rfl hw0 hw1 (by decide +kernel) ⟨Nat.le_of_ble_eq_true rfl, Nat.le_of_ble_eq_true rfl⟩, hw2, hw3⟩ ⟨fun a U g mk q => by obtain ⟨q0, q1, qP, qK, qD⟩ := q; exact ⟨q0, q1, qP, va_K.moved (u := U) (U := U.calling g mk a) (Vm.Alike.refl U.vm) qK, qD⟩, va_recv hK hPc (ci := 6) (q0 := 0) rfl rfl, fun U hU hW => ⟨rfl, by rw [hU], by rw [hU]; exact hPc, va_K.moved hW.alike hK, hDc.weaken (fun _ _ _ _ => trivial)⟩⟩ rfl rfl hl.1 rfl (lv_room (Nat.le_of_ble_eq_true rfl)) dX6_putCrash_2 ⟨Nat.le_of_ble_eq_true rfl, Nat.le_of_ble_eq_true rfl⟩) hS (fun q _ h => hFc q h) hFc (fun r_1 u t H1 locs ht hvm hpost hB hz1 hk1 hS => ?_)
  subst hpost
  obtain ⟨hf_2, hP1, hK1, hD1⟩ := hB
  rw [ht] at hP1
  obtain ⟨hP, hD⟩ := va_join (wr := []) (w1 := [(h0, .inr (6, [.int v_x_kilometres, .ref x_rises, .ref x_winds, .int v_x_primes, .ref x_primeMetres, .int v_x_crashMetre, .int v_x_crashPart]))]) hP hD [0] [] rfl rfl (by decide) (by decide) hk1 hFc hP1 hD1
  generalize H1 = H at hP hS ⊢
  have hP : va_P (dC, dI) vwCl [(h0, .inr (6, [.int v_x_kilometres, .ref x_rises, .ref x_winds, .int v_x_primes, .ref x_primeMetres, .int v_x_crashMetre, .int v_x_crashPart]))] H := hP
  have hD : va_D A [(h0, .inr (6, [.int v_x_kilometres, .ref x_rises, .ref x_winds, .int v_x_primes, .ref x_primeMetres, .int v_x_crashMetre, .int v_x_crashPart]))] := hD
  have hf_2 : (r_1 = 1 ∧ (1 ≤ pM_i ∧ pM_i < v_x_kilometres_i * 1000)) ∨ (r_1 = 0 ∧ ¬ (1 ≤ pM_i ∧ pM_i < v_x_kilometres_i * 1000)) := hf_2
  rcases hf_2 with ⟨rfl, hf_2⟩ | ⟨rfl, hf_2⟩
  ·
    refine lv_if_eq (tgt := 18) hx hb dX6_putCrash_5 (by decide) (fun c_3 => ?_) (fun c_3 => ?_)
    ·
      exact absurd c_3 (by decide)
    ·
      refine lv_iload_n hx hb dX6_putCrash_8 rfl (lv_at hl 2 rfl) ?_
      refine lv_if_lt (tgt := 18) hx hb dX6_putCrash_9 (by decide) (fun c_4 => ?_) (fun c_4 => ?_)
      ·
        have c_4 : pA_i < (0:Int) := zz_lt pA_h (by decide) c_4
        refine lv_iconst (v := 0) hx hb dX6_putCrash_18 (by decide) ?_
        have hu9 : (0 : Int32).toInt = (0:Int) := (by decide)
        have hx9_w_h0_crashMetre : (v_x_crashMetre : Int32).toInt = v_x_crashMetre_i := v_x_crashMetre_h
        have hx9_w_h0_crashPart : (v_x_crashPart : Int32).toInt = v_x_crashPart_i := v_x_crashPart_h
        have hP9 := hP.sub (ws' := [(h0, .inr (6, [.int v_x_kilometres, .ref x_rises, .ref x_winds, .int v_x_primes, .ref x_primeMetres, .int v_x_crashMetre, .int v_x_crashPart]))]) [0] rfl
        have hD9 := hD.sub (ws' := [(h0, .inr (6, [.int v_x_kilometres, .ref x_rises, .ref x_winds, .int v_x_primes, .ref x_primeMetres, .int v_x_crashMetre, .int v_x_crashPart]))]) [0] (by decide) rfl
        have hf9_0 : ((0 : Int32) = 1 ∧ (1 ≤ pM_i ∧ pM_i < v_x_kilometres_i * 1000 ∧ 0 ≤ pA_i ∧ pA_i ≤ 100)) ∨ ((0 : Int32) = 0 ∧ ¬ (1 ≤ pM_i ∧ pM_i < v_x_kilometres_i * 1000 ∧ 0 ≤ pA_i ∧ pA_i ≤ 100)) := Or.inr ⟨rfl, by omega⟩
        exact W.zret (v := 0) hx hb hr rfl (fun t ht hW => ⟨⟨0, 0, rfl, rfl, v_x_crashMetre, v_x_crashPart, hf9_0, by rw [ht]; exact hP9, va_K.moved hW.alike hK, hD9⟩, hS.F ht⟩) hS.2.2 dX6_putCrash_19
      ·
        have c_4 : ¬ (pA_i < (0:Int)) := zz_ltn pA_h (by decide) c_4
        refine lv_iload_n hx hb dX6_putCrash_12 rfl (lv_at hl 2 rfl) ?_
        refine lv_bipush (v := 100) hx hb dX6_putCrash_13 (by decide) ?_
        refine lv_icmp_le (tgt := 20) hx hb dX6_putCrash_15 (by decide) (fun c_5 => ?_) (fun c_5 => ?_)
        ·
          have c_5 : pA_i ≤ (100:Int) := zz_le pA_h (by decide) c_5
          refine lv_aload_n hx hb dX6_putCrash_20 rfl (lv_at hl 0 rfl) ?_
          refine lv_iload_n hx hb dX6_putCrash_21 rfl (lv_at hl 1 rfl) ?_
          refine va_put (D := (dC, dI)) (ci := 6) (v := .int pM) (ty := .int) (C := RX6) (T := TX6) (N := 7) hx hb hts hiX6 tyX6 tyX6_ok nmX6 hown hK hP hD hS 0 rfl rfl 5 (by decide) hw4 (fun _ h9 => h9) rfl (by decide +kernel) rfl rfl (Nat.le_of_ble_eq_true rfl) dX6_putCrash_22 (fun H locs hP hD hS => ?_)
          have hP : va_P (dC, dI) vwCl [(h0, .inr (6, [.int v_x_kilometres, .ref x_rises, .ref x_winds, .int v_x_primes, .ref x_primeMetres, .int pM, .int v_x_crashPart]))] H := hP
          have hD : va_D A [(h0, .inr (6, [.int v_x_kilometres, .ref x_rises, .ref x_winds, .int v_x_primes, .ref x_primeMetres, .int pM, .int v_x_crashPart]))] := hD
          refine lv_aload_n hx hb dX6_putCrash_25 rfl (lv_at hl 0 rfl) ?_
          refine lv_iload_n hx hb dX6_putCrash_26 rfl (lv_at hl 2 rfl) ?_
          refine va_put (D := (dC, dI)) (ci := 6) (v := .int pA) (ty := .int) (C := RX6) (T := TX6) (N := 7) hx hb hts hiX6 tyX6 tyX6_ok nmX6 hown hK hP hD hS 0 rfl rfl 6 (by decide) hw5 (fun _ h9 => h9) rfl (by decide +kernel) rfl rfl (Nat.le_of_ble_eq_true rfl) dX6_putCrash_27 (fun H locs hP hD hS => ?_)
          have hP : va_P (dC, dI) vwCl [(h0, .inr (6, [.int v_x_kilometres, .ref x_rises, .ref x_winds, .int v_x_primes, .ref x_primeMetres, .int pM, .int pA]))] H := hP
          have hD : va_D A [(h0, .inr (6, [.int v_x_kilometres, .ref x_rises, .ref x_winds, .int v_x_primes, .ref x_primeMetres, .int pM, .int pA]))] := hD
          refine lv_iconst (v := 1) hx hb dX6_putCrash_30 (by decide) ?_
          have hu9 : (1 : Int32).toInt = (1:Int) := (by decide)
          have hx9_w_h0_crashMetre : (pM : Int32).toInt = pM_i := pM_h
          have hx9_w_h0_crashPart : (pA : Int32).toInt = pA_i := pA_h
          have hP9 := hP.sub (ws' := [(h0, .inr (6, [.int v_x_kilometres, .ref x_rises, .ref x_winds, .int v_x_primes, .ref x_primeMetres, .int pM, .int pA]))]) [0] rfl
          have hD9 := hD.sub (ws' := [(h0, .inr (6, [.int v_x_kilometres, .ref x_rises, .ref x_winds, .int v_x_primes, .ref x_primeMetres, .int pM, .int pA]))]) [0] (by decide) rfl
          have hf9_0 : ((1 : Int32) = 1 ∧ (1 ≤ pM_i ∧ pM_i < v_x_kilometres_i * 1000 ∧ 0 ≤ pA_i ∧ pA_i ≤ 100)) ∨ ((1 : Int32) = 0 ∧ ¬ (1 ≤ pM_i ∧ pM_i < v_x_kilometres_i * 1000 ∧ 0 ≤ pA_i ∧ pA_i ≤ 100)) := Or.inl ⟨rfl, by omega⟩
          exact W.zret (v := 1) hx hb hr rfl (fun t ht hW => ⟨⟨1, 1, rfl, rfl, pM, pA, hf9_0, by rw [ht]; exact hP9, va_K.moved hW.alike hK, hD9⟩, hS.F ht⟩) hS.2.2 dX6_putCrash_31
        ·
          have c_5 : ¬ (pA_i ≤ (100:Int)) := zz_len pA_h (by decide) c_5
          refine lv_iconst (v := 0) hx hb dX6_putCrash_18 (by decide) ?_
          have hu9 : (0 : Int32).toInt = (0:Int) := (by decide)
          have hx9_w_h0_crashMetre : (v_x_crashMetre : Int32).toInt = v_x_crashMetre_i := v_x_crashMetre_h
          have hx9_w_h0_crashPart : (v_x_crashPart : Int32).toInt = v_x_crashPart_i := v_x_crashPart_h
          have hP9 := hP.sub (ws' := [(h0, .inr (6, [.int v_x_kilometres, .ref x_rises, .ref x_winds, .int v_x_primes, .ref x_primeMetres, .int v_x_crashMetre, .int v_x_crashPart]))]) [0] rfl
          have hD9 := hD.sub (ws' := [(h0, .inr (6, [.int v_x_kilometres, .ref x_rises, .ref x_winds, .int v_x_primes, .ref x_primeMetres, .int v_x_crashMetre, .int v_x_crashPart]))]) [0] (by decide) rfl
          have hf9_0 : ((0 : Int32) = 1 ∧ (1 ≤ pM_i ∧ pM_i < v_x_kilometres_i * 1000 ∧ 0 ≤ pA_i ∧ pA_i ≤ 100)) ∨ ((0 : Int32) = 0 ∧ ¬ (1 ≤ pM_i ∧ pM_i < v_x_kilometres_i * 1000 ∧ 0 ≤ pA_i ∧ pA_i ≤ 100)) := Or.inr ⟨rfl, by omega⟩
          exact W.zret (v := 0) hx hb hr rfl (fun t ht hW => ⟨⟨0, 0, rfl, rfl, v_x_crashMetre, v_x_crashPart, hf9_0, by rw [ht]; exact hP9, va_K.moved hW.alike hK, hD9⟩, hS.F ht⟩) hS.2.2 dX6_putCrash_19
  ·
    refine lv_if_eq (tgt := 18) hx hb dX6_putCrash_5 (by decide) (fun c_6 => ?_) (fun c_6 => ?_)
    ·
      refine lv_iconst (v := 0) hx hb dX6_putCrash_18 (by decide) ?_
      have hu9 : (0 : Int32).toInt = (0:Int) := (by decide)
      have hx9_w_h0_crashMetre : (v_x_crashMetre : Int32).toInt = v_x_crashMetre_i := v_x_crashMetre_h
      have hx9_w_h0_crashPart : (v_x_crashPart : Int32).toInt = v_x_crashPart_i := v_x_crashPart_h
      have hP9 := hP.sub (ws' := [(h0, .inr (6, [.int v_x_kilometres, .ref x_rises, .ref x_winds, .int v_x_primes, .ref x_primeMetres, .int v_x_crashMetre, .int v_x_crashPart]))]) [0] rfl
      have hD9 := hD.sub (ws' := [(h0, .inr (6, [.int v_x_kilometres, .ref x_rises, .ref x_winds, .int v_x_primes, .ref x_primeMetres, .int v_x_crashMetre, .int v_x_crashPart]))]) [0] (by decide) rfl
      have hf9_0 : ((0 : Int32) = 1 ∧ (1 ≤ pM_i ∧ pM_i < v_x_kilometres_i * 1000 ∧ 0 ≤ pA_i ∧ pA_i ≤ 100)) ∨ ((0 : Int32) = 0 ∧ ¬ (1 ≤ pM_i ∧ pM_i < v_x_kilometres_i * 1000 ∧ 0 ≤ pA_i ∧ pA_i ≤ 100)) := Or.inr ⟨rfl, by omega⟩
      exact W.zret (v := 0) hx hb hr rfl (fun t ht hW => ⟨⟨0, 0, rfl, rfl, v_x_crashMetre, v_x_crashPart, hf9_0, by rw [ht]; exact hP9, va_K.moved hW.alike hK, hD9⟩, hS.F ht⟩) hS.2.2 dX6_putCrash_19
    ·
      exact absurd c_6 (by decide)

set_option maxHeartbeats 8000000 in
set_option maxRecDepth 100000 in
theorem c_X9_isTeam (l : Launch) (dC : Nat → ClassId) (dI : Nat → Nat → Nat) (cI cZ : ClassId) (sz : Nat) (pT : Int32) (pT_i : Int) (pT_h : pT.toInt = pT_i) : Met l yX9_isTeam (Cond.code yX9_isTeam cX9_isTeam 1 (some .boolean) :: lw_good) ({ frames := 0, cells := 0, slots := 0, locals := 0 }) (va_Pc [.int pT] (fun U => U.heap.size = sz ∧ va_P (dC, dI) vwCl [] U.heap ∧ va_K (dC, dI) vwCl [(cI, .int), (cZ, .boolean)] U ∧ va_D (fun _ => True) [])) (va_Qi (fun (r u : Int32) => r = u) (fun u t => ((u = 1 ∧ (0 ≤ pT_i ∧ pT_i ≤ 4)) ∨ (u = 0 ∧ ¬ (0 ≤ pT_i ∧ pT_i ≤ 4))) ∧ va_P (dC, dI) vwCl [] t.heap ∧ va_K (dC, dI) vwCl [(cI, .int), (cZ, .boolean)] t ∧ va_D (va_A [] sz) []) (va_A [] sz)) 0 0 (va_A [] sz) := by
  refine Met.ofW (cc := cX9_isTeam) (maxL := 1) (ret := (some .boolean)) (by decide) rfl ?_
  intro p e s m args below meth c s₁ B hml hv
  obtain ⟨rfl, hsz, hP, hK, hD0⟩ := hv
  have hx := B.exec
  have hb := B.bytes
  have hr := B.returns
  have hts := atoms_spec (ws := Cond.code yX9_isTeam cX9_isTeam 1 (some .boolean) :: lw_good) B.pre
  have hown : s.vm.findClass RX9 = some m.cls := findClass_of_methodNamed B.named
  have hlocks := B.notSynchronized
  subst hsz
  have hD := hD0.self (sz := s.heap.size)
  generalize hAe : va_A [] s.heap.size = A at hD ⊢
  have hA : ∀ q : Nat, s.heap.size ≤ q → A q := fun q h => by rw [← hAe]; exact Or.inr h
  have hS : va_S A s.heap s.heap [] := va_S.rf
  have hP : va_P (dC, dI) vwCl [] s.heap := hP
  have hl := lv_entry ([.int pT]) (n := 1) (Nat.le_of_ble_eq_true rfl)
  rw [lg_entry_eq]
  generalize (lg_sl ([.int pT]) ++ List.replicate (1 - (lg_sl ([.int pT])).length) Slot.unset).toArray = ls at hl ⊢
  have hl : lv_has ls 1 [(0, .int pT)] := hl
  refine lv_iload_n hx hb dX9_isTeam_0 rfl (lv_at hl 0 rfl) ?_
  refine lv_if_lt (tgt := 13) hx hb dX9_isTeam_1 (by decide) (fun c_1 => ?_) (fun c_1 => ?_)
  ·
    have c_1 : pT_i < (0:Int) := zz_lt pT_h (by decide) c_1
    refine lv_iconst (v := 0) hx hb dX9_isTeam_13 (by decide) ?_
    have hu9 : (0 : Int32).toInt = (0:Int) := (by decide)
    have hP9 := hP.sub (ws' := []) [] rfl
    have hD9 := hD.sub (ws' := []) [] (by decide) rfl
    have hf9_0 : ((0 : Int32) = 1 ∧ (0 ≤ pT_i ∧ pT_i ≤ 4)) ∨ ((0 : Int32) = 0 ∧ ¬ (0 ≤ pT_i ∧ pT_i ≤ 4)) := Or.inr ⟨rfl, by omega⟩
    exact W.zret (v := 0) hx hb hr rfl (fun t ht hW => ⟨⟨0, 0, rfl, rfl, hf9_0, by rw [ht]; exact hP9, va_K.moved hW.alike hK, hD9⟩, hS.F ht⟩) hS.2.2 dX9_isTeam_14
  ·
    have c_1 : ¬ (pT_i < (0:Int)) := zz_ltn pT_h (by decide) c_1
    refine lv_iload_n hx hb dX9_isTeam_4 rfl (lv_at hl 0 rfl) ?_
    refine lv_iconst (v := 5) hx hb dX9_isTeam_5 (by decide) ?_
    refine lv_icmp_ge (tgt := 13) hx hb dX9_isTeam_6 (by decide) (fun c_2 => ?_) (fun c_2 => ?_)
    ·
      have c_2 : (5:Int) ≤ pT_i := zz_le (by decide) pT_h c_2
      refine lv_iconst (v := 0) hx hb dX9_isTeam_13 (by decide) ?_
      have hu9 : (0 : Int32).toInt = (0:Int) := (by decide)
      have hP9 := hP.sub (ws' := []) [] rfl
      have hD9 := hD.sub (ws' := []) [] (by decide) rfl
      have hf9_0 : ((0 : Int32) = 1 ∧ (0 ≤ pT_i ∧ pT_i ≤ 4)) ∨ ((0 : Int32) = 0 ∧ ¬ (0 ≤ pT_i ∧ pT_i ≤ 4)) := Or.inr ⟨rfl, by omega⟩
      exact W.zret (v := 0) hx hb hr rfl (fun t ht hW => ⟨⟨0, 0, rfl, rfl, hf9_0, by rw [ht]; exact hP9, va_K.moved hW.alike hK, hD9⟩, hS.F ht⟩) hS.2.2 dX9_isTeam_14
    ·
      have c_2 : ¬ ((5:Int) ≤ pT_i) := zz_len (by decide) pT_h c_2
      refine lv_iconst (v := 1) hx hb dX9_isTeam_9 (by decide) ?_
      refine lv_goto (tgt := 14) hx hb dX9_isTeam_10 (by decide) ?_
      have hu9 : (1 : Int32).toInt = (1:Int) := (by decide)
      have hP9 := hP.sub (ws' := []) [] rfl
      have hD9 := hD.sub (ws' := []) [] (by decide) rfl
      have hf9_0 : ((1 : Int32) = 1 ∧ (0 ≤ pT_i ∧ pT_i ≤ 4)) ∨ ((1 : Int32) = 0 ∧ ¬ (0 ≤ pT_i ∧ pT_i ≤ 4)) := Or.inl ⟨rfl, by omega⟩
      exact W.zret (v := 1) hx hb hr rfl (fun t ht hW => ⟨⟨1, 1, rfl, rfl, hf9_0, by rw [ht]; exact hP9, va_K.moved hW.alike hK, hD9⟩, hS.F ht⟩) hS.2.2 dX9_isTeam_14

set_option maxHeartbeats 8000000 in
set_option maxRecDepth 100000 in
theorem c_X5_add (l : Launch) (dC : Nat → ClassId) (dI : Nat → Nat → Nat) (cI cZ : ClassId) (sz : Nat) (h0 : Nat) (pT : Int32) (pT_i : Int) (pT_h : pT.toInt = pT_i) (pS : Int32) (pS_i : Int) (pS_h : pS.toInt = pS_i) (pF : Int32) (pF_i : Int) (pF_h : pF.toInt = pF_i) (pC : Int32) (pC_i : Int) (pC_h : pC.toInt = pC_i) (v_x_number : Int32) (v_x_number_i : Int) (v_x_number_h : v_x_number.toInt = v_x_number_i) (B_v_x_number : 0 ≤ v_x_number_i ∧ v_x_number_i ≤ 20) (x_teams : Nat) (x_steady : Nat) (x_full : Nat) (x_climb : Nat) (f_x_teams : Nat → Int32) (R_x_teams : zr f_x_teams 20 (0) (4)) (f_x_steady : Nat → Int32) (f_x_full : Nat → Int32) (f_x_climb : Nat → Int32) : Met l yX5_add (Cond.code yX5_add cX5_add 5 (some .int) :: lw_good) ({ frames := 1, cells := 0, slots := 0, locals := 20 }) (va_Pc [.ref h0, .int pT, .int pS, .int pF, .int pC] (fun U => U.heap.size = sz ∧ va_P (dC, dI) vwCl [(h0, .inr (5, [.int v_x_number, .ref x_teams, .ref x_steady, .ref x_full, .ref x_climb])), (x_teams, .inl (cI, 20, .inl f_x_teams)), (x_steady, .inl (cI, 20, .inl f_x_steady)), (x_full, .inl (cI, 20, .inl f_x_full)), (x_climb, .inl (cI, 20, .inl f_x_climb))] U.heap ∧ va_K (dC, dI) vwCl [(cI, .int), (cZ, .boolean)] U ∧ va_D (fun _ => True) [(h0, .inr (5, [.int v_x_number, .ref x_teams, .ref x_steady, .ref x_full, .ref x_climb])), (x_teams, .inl (cI, 20, .inl f_x_teams)), (x_steady, .inl (cI, 20, .inl f_x_steady)), (x_full, .inl (cI, 20, .inl f_x_full)), (x_climb, .inl (cI, 20, .inl f_x_climb))] ∧ va_Nw (.methodLinkNest RX5 28 yX9_isTeam "BunchRace") U)) (va_Qi (fun (r u : Int32) => r = u) (fun u t => ∃ (w_h0_number : Int32) (g_x_teams : Nat → Int32) (g_x_steady : Nat → Int32) (g_x_full : Nat → Int32) (g_x_climb : Nat → Int32), (((v_x_number_i < 20 ∧ 0 ≤ pT_i ∧ pT_i ≤ 4 ∧ 1 ≤ pS_i ∧ pS_i ≤ 60 ∧ 0 ≤ pF_i ∧ pF_i ≤ 2000 ∧ 0 ≤ pC_i ∧ pC_i ≤ 50) ∧ u.toInt = v_x_number_i ∧ w_h0_number.toInt = v_x_number_i + 1) ∨ (¬ (v_x_number_i < 20 ∧ 0 ≤ pT_i ∧ pT_i ≤ 4 ∧ 1 ≤ pS_i ∧ pS_i ≤ 60 ∧ 0 ≤ pF_i ∧ pF_i ≤ 2000 ∧ 0 ≤ pC_i ∧ pC_i ≤ 50) ∧ u.toInt = -1 ∧ w_h0_number.toInt = v_x_number_i)) ∧ (0 ≤ w_h0_number.toInt ∧ w_h0_number.toInt ≤ 20) ∧ (zr g_x_teams 20 (0) (4)) ∧ va_P (dC, dI) vwCl [(h0, .inr (5, [.int w_h0_number, .ref x_teams, .ref x_steady, .ref x_full, .ref x_climb])), (x_teams, .inl (cI, 20, .inl g_x_teams)), (x_steady, .inl (cI, 20, .inl g_x_steady)), (x_full, .inl (cI, 20, .inl g_x_full)), (x_climb, .inl (cI, 20, .inl g_x_climb))] t.heap ∧ va_K (dC, dI) vwCl [(cI, .int), (cZ, .boolean)] t ∧ va_D (va_A [(h0, .inr (5, [.int v_x_number, .ref x_teams, .ref x_steady, .ref x_full, .ref x_climb])), (x_teams, .inl (cI, 20, .inl f_x_teams)), (x_steady, .inl (cI, 20, .inl f_x_steady)), (x_full, .inl (cI, 20, .inl f_x_full)), (x_climb, .inl (cI, 20, .inl f_x_climb))] sz) [(h0, .inr (5, [.int w_h0_number, .ref x_teams, .ref x_steady, .ref x_full, .ref x_climb])), (x_teams, .inl (cI, 20, .inl g_x_teams)), (x_steady, .inl (cI, 20, .inl g_x_steady)), (x_full, .inl (cI, 20, .inl g_x_full)), (x_climb, .inl (cI, 20, .inl g_x_climb))]) (va_A [(h0, .inr (5, [.int v_x_number, .ref x_teams, .ref x_steady, .ref x_full, .ref x_climb])), (x_teams, .inl (cI, 20, .inl f_x_teams)), (x_steady, .inl (cI, 20, .inl f_x_steady)), (x_full, .inl (cI, 20, .inl f_x_full)), (x_climb, .inl (cI, 20, .inl f_x_climb))] sz)) 0 0 (va_A [(h0, .inr (5, [.int v_x_number, .ref x_teams, .ref x_steady, .ref x_full, .ref x_climb])), (x_teams, .inl (cI, 20, .inl f_x_teams)), (x_steady, .inl (cI, 20, .inl f_x_steady)), (x_full, .inl (cI, 20, .inl f_x_full)), (x_climb, .inl (cI, 20, .inl f_x_climb))] sz) := by
  refine Met.ofW (cc := cX5_add) (maxL := 5) (ret := (some .int)) (by decide) rfl ?_
  intro p e s m args below meth c s₁ B hml hv
  obtain ⟨rfl, hsz, hP, hK, hD0, hnX5_28⟩ := hv
  have hx := B.exec
  have hb := B.bytes
  have hr := B.returns
  have hts := atoms_spec (ws := Cond.code yX5_add cX5_add 5 (some .int) :: lw_good) B.pre
  have hown : s.vm.findClass RX5 = some m.cls := findClass_of_methodNamed B.named
  have hlocks := B.notSynchronized
  have hiX5 : ∀ w ∈ wsX50, w ∈ (Cond.code yX5_add cX5_add 5 (some .int) :: lw_good) := fun w h => List.mem_cons_of_mem _ (zi_X5 w h)
  have hw0 := hts (.fieldLink RX5 9 "BunchRace$Riders" "number" "I") (List.mem_cons_of_mem _ zw_74)
  have hw1 := hts (.initialized RX9) (List.mem_cons_of_mem _ zw_48)
  have hw2 := hts (.static yX9_isTeam) (List.mem_cons_of_mem _ zw_380)
  have hw3 := hts (.fieldLink RX5 15 "BunchRace$Riders" "teams" "[I") (List.mem_cons_of_mem _ zw_78)
  have hw4 := hts (.fieldLink RX5 19 "BunchRace$Riders" "steady" "[I") (List.mem_cons_of_mem _ zw_81)
  have hw5 := hts (.fieldLink RX5 22 "BunchRace$Riders" "full" "[I") (List.mem_cons_of_mem _ zw_83)
  have hw6 := hts (.fieldLink RX5 25 "BunchRace$Riders" "climb" "[I") (List.mem_cons_of_mem _ zw_85)
  subst hsz
  have hD := hD0.self (sz := s.heap.size)
  generalize hAe : va_A [(h0, .inr (5, [.int v_x_number, .ref x_teams, .ref x_steady, .ref x_full, .ref x_climb])), (x_teams, .inl (cI, 20, .inl f_x_teams)), (x_steady, .inl (cI, 20, .inl f_x_steady)), (x_full, .inl (cI, 20, .inl f_x_full)), (x_climb, .inl (cI, 20, .inl f_x_climb))] s.heap.size = A at hD ⊢
  have hA : ∀ q : Nat, s.heap.size ≤ q → A q := fun q h => by rw [← hAe]; exact Or.inr h
  have hS : va_S A s.heap s.heap [] := va_S.rf
  have hP : va_P (dC, dI) vwCl [(h0, .inr (5, [.int v_x_number, .ref x_teams, .ref x_steady, .ref x_full, .ref x_climb])), (x_teams, .inl (cI, 20, .inl f_x_teams)), (x_steady, .inl (cI, 20, .inl f_x_steady)), (x_full, .inl (cI, 20, .inl f_x_full)), (x_climb, .inl (cI, 20, .inl f_x_climb))] s.heap := hP
  have hl := lv_entry ([.ref h0, .int pT, .int pS, .int pF, .int pC]) (n := 5) (Nat.le_of_ble_eq_true rfl)
  rw [lg_entry_eq]
  generalize (lg_sl ([.ref h0, .int pT, .int pS, .int pF, .int pC]) ++ List.replicate (5 - (lg_sl ([.ref h0, .int pT, .int pS, .int pF, .int pC])).length) Slot.unset).toArray = ls at hl ⊢
  have hl : lv_has ls 5 [(0, .ref h0), (1, .int pT), (2, .int pS), (3, .int pF), (4, .int pC)] := hl
  refine lv_aload_n hx hb dX5_add_0 rfl (lv_at hl 0 rfl) ?_
  refine va_get (D := (dC, dI)) (ci := 5) (v := .int v_x_number) (C := RX5) (T := TX5) (N := 5) hx hb hts hiX5 hown hK hP 0 rfl rfl 0 (by decide) hw0 (fun _ h9 => h9) rfl dX5_add_1 ?_
  refine lv_bipush (v := 20) hx hb dX5_add_4 (by decide) ?_
  refine lv_icmp_ge (tgt := 50) hx hb dX5_add_6 (by decide) (fun c_1 => ?_) (fun c_1 => ?_)
  ·
    have c_1 : (20:Int) ≤ v_x_number_i := zz_le (by decide) v_x_number_h c_1
    refine lv_iconst (v := (-1)) hx hb dX5_add_50 (by decide) ?_
    have hu9 : ((-1) : Int32).toInt = (-1:Int) := (by decide)
    have hx9_w_h0_number : (v_x_number : Int32).toInt = v_x_number_i := v_x_number_h
    have hP9 := hP.sub (ws' := [(h0, .inr (5, [.int v_x_number, .ref x_teams, .ref x_steady, .ref x_full, .ref x_climb])), (x_teams, .inl (cI, 20, .inl f_x_teams)), (x_steady, .inl (cI, 20, .inl f_x_steady)), (x_full, .inl (cI, 20, .inl f_x_full)), (x_climb, .inl (cI, 20, .inl f_x_climb))]) [0, 1, 2, 3, 4] rfl
    have hD9 := hD.sub (ws' := [(h0, .inr (5, [.int v_x_number, .ref x_teams, .ref x_steady, .ref x_full, .ref x_climb])), (x_teams, .inl (cI, 20, .inl f_x_teams)), (x_steady, .inl (cI, 20, .inl f_x_steady)), (x_full, .inl (cI, 20, .inl f_x_full)), (x_climb, .inl (cI, 20, .inl f_x_climb))]) [0, 1, 2, 3, 4] (by decide) rfl
    have hf9_0 : ((v_x_number_i < 20 ∧ 0 ≤ pT_i ∧ pT_i ≤ 4 ∧ 1 ≤ pS_i ∧ pS_i ≤ 60 ∧ 0 ≤ pF_i ∧ pF_i ≤ 2000 ∧ 0 ≤ pC_i ∧ pC_i ≤ 50) ∧ ((-1) : Int32).toInt = v_x_number_i ∧ v_x_number.toInt = v_x_number_i + 1) ∨ (¬ (v_x_number_i < 20 ∧ 0 ≤ pT_i ∧ pT_i ≤ 4 ∧ 1 ≤ pS_i ∧ pS_i ≤ 60 ∧ 0 ≤ pF_i ∧ pF_i ≤ 2000 ∧ 0 ≤ pC_i ∧ pC_i ≤ 50) ∧ ((-1) : Int32).toInt = -1 ∧ v_x_number.toInt = v_x_number_i) := by omega
    have hf9_1 : 0 ≤ v_x_number.toInt ∧ v_x_number.toInt ≤ 20 := by omega
    have hf9_2 : zr f_x_teams 20 (0) (4) := R_x_teams
    exact W.iret (v := (-1)) hx hb hr (fun t ht hW => ⟨⟨(-1), (-1), rfl, rfl, v_x_number, f_x_teams, f_x_steady, f_x_full, f_x_climb, hf9_0, hf9_1, hf9_2, by rw [ht]; exact hP9, va_K.moved hW.alike hK, hD9⟩, hS.F ht⟩) hS.2.2 dX5_add_51
  ·
    have c_1 : ¬ ((20:Int) ≤ v_x_number_i) := zz_len (by decide) v_x_number_h c_1
    refine lv_iload_n hx hb dX5_add_9 rfl (lv_at hl 1 rfl) ?_
    have hPc := hP.sub (ws' := []) [] rfl
    have hDc := hD.sub (ws' := []) [] (by decide) rfl
    have hFc := va_free (wc := []) hD hS hA [] rfl
    refine va_calli (va_runSN (As := [.int pT]) (rest := []) ⟨hx, hb, hml, hown, hts⟩ (c_X9_isTeam l dC dI cI cZ (s.heap).size pT pT_i pT_h) ⟨va_cnB (host := "BunchRace") 1 hts (zz_good zw_381) rfl rfl rfl hnX5_28 hw1 (by decide +kernel) ⟨Nat.le_of_ble_eq_true rfl, Nat.le_of_ble_eq_true rfl⟩, hw2, trivial⟩ ⟨fun a U g mk q => by obtain ⟨q0, q1, qP, qK, qD⟩ := q; exact ⟨q0, q1, qP, va_K.moved (u := U) (U := U.calling g mk a) (Vm.Alike.refl U.vm) qK, qD⟩, fun U hU hW => ⟨rfl, by rw [hU], by rw [hU]; exact hPc, va_K.moved hW.alike hK, hDc.weaken (fun _ _ _ _ => trivial)⟩⟩ rfl rfl hl.1 rfl (lv_room (Nat.le_of_ble_eq_true rfl)) dX5_add_10 ⟨Nat.le_of_ble_eq_true rfl, Nat.le_of_ble_eq_true rfl⟩) hS (fun q _ h => hFc q h) hFc (fun r_2 u t H1 locs ht hvm hpost hB hz1 hk1 hS => ?_)
    subst hpost
    obtain ⟨hf_3, hP1, hK1, hD1⟩ := hB
    rw [ht] at hP1
    obtain ⟨hP, hD⟩ := va_join (wr := [(h0, .inr (5, [.int v_x_number, .ref x_teams, .ref x_steady, .ref x_full, .ref x_climb])), (x_teams, .inl (cI, 20, .inl f_x_teams)), (x_steady, .inl (cI, 20, .inl f_x_steady)), (x_full, .inl (cI, 20, .inl f_x_full)), (x_climb, .inl (cI, 20, .inl f_x_climb))]) (w1 := []) hP hD [] [0, 1, 2, 3, 4] rfl rfl (by decide) (by decide) hk1 hFc hP1 hD1
    generalize H1 = H at hP hS ⊢
    have hP : va_P (dC, dI) vwCl [(h0, .inr (5, [.int v_x_number, .ref x_teams, .ref x_steady, .ref x_full, .ref x_climb])), (x_teams, .inl (cI, 20, .inl f_x_teams)), (x_steady, .inl (cI, 20, .inl f_x_steady)), (x_full, .inl (cI, 20, .inl f_x_full)), (x_climb, .inl (cI, 20, .inl f_x_climb))] H := hP
    have hD : va_D A [(h0, .inr (5, [.int v_x_number, .ref x_teams, .ref x_steady, .ref x_full, .ref x_climb])), (x_teams, .inl (cI, 20, .inl f_x_teams)), (x_steady, .inl (cI, 20, .inl f_x_steady)), (x_full, .inl (cI, 20, .inl f_x_full)), (x_climb, .inl (cI, 20, .inl f_x_climb))] := hD
    have hf_3 : (r_2 = 1 ∧ (0 ≤ pT_i ∧ pT_i ≤ 4)) ∨ (r_2 = 0 ∧ ¬ (0 ≤ pT_i ∧ pT_i ≤ 4)) := hf_3
    rcases hf_3 with ⟨rfl, hf_3⟩ | ⟨rfl, hf_3⟩
    ·
      refine lv_if_eq (tgt := 50) hx hb dX5_add_13 (by decide) (fun c_4 => ?_) (fun c_4 => ?_)
      ·
        exact absurd c_4 (by decide)
      ·
        refine lv_iload_n hx hb dX5_add_16 rfl (lv_at hl 2 rfl) ?_
        refine lv_iconst (v := 1) hx hb dX5_add_17 (by decide) ?_
        refine lv_icmp_lt (tgt := 50) hx hb dX5_add_18 (by decide) (fun c_5 => ?_) (fun c_5 => ?_)
        ·
          have c_5 : pS_i < (1:Int) := zz_lt pS_h (by decide) c_5
          refine lv_iconst (v := (-1)) hx hb dX5_add_50 (by decide) ?_
          have hu9 : ((-1) : Int32).toInt = (-1:Int) := (by decide)
          have hx9_w_h0_number : (v_x_number : Int32).toInt = v_x_number_i := v_x_number_h
          have hP9 := hP.sub (ws' := [(h0, .inr (5, [.int v_x_number, .ref x_teams, .ref x_steady, .ref x_full, .ref x_climb])), (x_teams, .inl (cI, 20, .inl f_x_teams)), (x_steady, .inl (cI, 20, .inl f_x_steady)), (x_full, .inl (cI, 20, .inl f_x_full)), (x_climb, .inl (cI, 20, .inl f_x_climb))]) [0, 1, 2, 3, 4] rfl
          have hD9 := hD.sub (ws' := [(h0, .inr (5, [.int v_x_number, .ref x_teams, .ref x_steady, .ref x_full, .ref x_climb])), (x_teams, .inl (cI, 20, .inl f_x_teams)), (x_steady, .inl (cI, 20, .inl f_x_steady)), (x_full, .inl (cI, 20, .inl f_x_full)), (x_climb, .inl (cI, 20, .inl f_x_climb))]) [0, 1, 2, 3, 4] (by decide) rfl
          have hf9_0 : ((v_x_number_i < 20 ∧ 0 ≤ pT_i ∧ pT_i ≤ 4 ∧ 1 ≤ pS_i ∧ pS_i ≤ 60 ∧ 0 ≤ pF_i ∧ pF_i ≤ 2000 ∧ 0 ≤ pC_i ∧ pC_i ≤ 50) ∧ ((-1) : Int32).toInt = v_x_number_i ∧ v_x_number.toInt = v_x_number_i + 1) ∨ (¬ (v_x_number_i < 20 ∧ 0 ≤ pT_i ∧ pT_i ≤ 4 ∧ 1 ≤ pS_i ∧ pS_i ≤ 60 ∧ 0 ≤ pF_i ∧ pF_i ≤ 2000 ∧ 0 ≤ pC_i ∧ pC_i ≤ 50) ∧ ((-1) : Int32).toInt = -1 ∧ v_x_number.toInt = v_x_number_i) := by omega
          have hf9_1 : 0 ≤ v_x_number.toInt ∧ v_x_number.toInt ≤ 20 := by omega
          have hf9_2 : zr f_x_teams 20 (0) (4) := R_x_teams
          exact W.iret (v := (-1)) hx hb hr (fun t ht hW => ⟨⟨(-1), (-1), rfl, rfl, v_x_number, f_x_teams, f_x_steady, f_x_full, f_x_climb, hf9_0, hf9_1, hf9_2, by rw [ht]; exact hP9, va_K.moved hW.alike hK, hD9⟩, hS.F ht⟩) hS.2.2 dX5_add_51
        ·
          have c_5 : ¬ (pS_i < (1:Int)) := zz_ltn pS_h (by decide) c_5
          refine lv_iload_n hx hb dX5_add_21 rfl (lv_at hl 2 rfl) ?_
          refine lv_bipush (v := 60) hx hb dX5_add_22 (by decide) ?_
          refine lv_icmp_gt (tgt := 50) hx hb dX5_add_24 (by decide) (fun c_6 => ?_) (fun c_6 => ?_)
          ·
            have c_6 : (60:Int) < pS_i := zz_lt (by decide) pS_h c_6
            refine lv_iconst (v := (-1)) hx hb dX5_add_50 (by decide) ?_
            have hu9 : ((-1) : Int32).toInt = (-1:Int) := (by decide)
            have hx9_w_h0_number : (v_x_number : Int32).toInt = v_x_number_i := v_x_number_h
            have hP9 := hP.sub (ws' := [(h0, .inr (5, [.int v_x_number, .ref x_teams, .ref x_steady, .ref x_full, .ref x_climb])), (x_teams, .inl (cI, 20, .inl f_x_teams)), (x_steady, .inl (cI, 20, .inl f_x_steady)), (x_full, .inl (cI, 20, .inl f_x_full)), (x_climb, .inl (cI, 20, .inl f_x_climb))]) [0, 1, 2, 3, 4] rfl
            have hD9 := hD.sub (ws' := [(h0, .inr (5, [.int v_x_number, .ref x_teams, .ref x_steady, .ref x_full, .ref x_climb])), (x_teams, .inl (cI, 20, .inl f_x_teams)), (x_steady, .inl (cI, 20, .inl f_x_steady)), (x_full, .inl (cI, 20, .inl f_x_full)), (x_climb, .inl (cI, 20, .inl f_x_climb))]) [0, 1, 2, 3, 4] (by decide) rfl
            have hf9_0 : ((v_x_number_i < 20 ∧ 0 ≤ pT_i ∧ pT_i ≤ 4 ∧ 1 ≤ pS_i ∧ pS_i ≤ 60 ∧ 0 ≤ pF_i ∧ pF_i ≤ 2000 ∧ 0 ≤ pC_i ∧ pC_i ≤ 50) ∧ ((-1) : Int32).toInt = v_x_number_i ∧ v_x_number.toInt = v_x_number_i + 1) ∨ (¬ (v_x_number_i < 20 ∧ 0 ≤ pT_i ∧ pT_i ≤ 4 ∧ 1 ≤ pS_i ∧ pS_i ≤ 60 ∧ 0 ≤ pF_i ∧ pF_i ≤ 2000 ∧ 0 ≤ pC_i ∧ pC_i ≤ 50) ∧ ((-1) : Int32).toInt = -1 ∧ v_x_number.toInt = v_x_number_i) := by omega
            have hf9_1 : 0 ≤ v_x_number.toInt ∧ v_x_number.toInt ≤ 20 := by omega
            have hf9_2 : zr f_x_teams 20 (0) (4) := R_x_teams
            exact W.iret (v := (-1)) hx hb hr (fun t ht hW => ⟨⟨(-1), (-1), rfl, rfl, v_x_number, f_x_teams, f_x_steady, f_x_full, f_x_climb, hf9_0, hf9_1, hf9_2, by rw [ht]; exact hP9, va_K.moved hW.alike hK, hD9⟩, hS.F ht⟩) hS.2.2 dX5_add_51
          ·
            have c_6 : ¬ ((60:Int) < pS_i) := zz_ltn (by decide) pS_h c_6
            refine lv_iload_n hx hb dX5_add_27 rfl (lv_at hl 3 rfl) ?_
            refine lv_if_lt (tgt := 50) hx hb dX5_add_28 (by decide) (fun c_7 => ?_) (fun c_7 => ?_)
            ·
              have c_7 : pF_i < (0:Int) := zz_lt pF_h (by decide) c_7
              refine lv_iconst (v := (-1)) hx hb dX5_add_50 (by decide) ?_
              have hu9 : ((-1) : Int32).toInt = (-1:Int) := (by decide)
              have hx9_w_h0_number : (v_x_number : Int32).toInt = v_x_number_i := v_x_number_h
              have hP9 := hP.sub (ws' := [(h0, .inr (5, [.int v_x_number, .ref x_teams, .ref x_steady, .ref x_full, .ref x_climb])), (x_teams, .inl (cI, 20, .inl f_x_teams)), (x_steady, .inl (cI, 20, .inl f_x_steady)), (x_full, .inl (cI, 20, .inl f_x_full)), (x_climb, .inl (cI, 20, .inl f_x_climb))]) [0, 1, 2, 3, 4] rfl
              have hD9 := hD.sub (ws' := [(h0, .inr (5, [.int v_x_number, .ref x_teams, .ref x_steady, .ref x_full, .ref x_climb])), (x_teams, .inl (cI, 20, .inl f_x_teams)), (x_steady, .inl (cI, 20, .inl f_x_steady)), (x_full, .inl (cI, 20, .inl f_x_full)), (x_climb, .inl (cI, 20, .inl f_x_climb))]) [0, 1, 2, 3, 4] (by decide) rfl
              have hf9_0 : ((v_x_number_i < 20 ∧ 0 ≤ pT_i ∧ pT_i ≤ 4 ∧ 1 ≤ pS_i ∧ pS_i ≤ 60 ∧ 0 ≤ pF_i ∧ pF_i ≤ 2000 ∧ 0 ≤ pC_i ∧ pC_i ≤ 50) ∧ ((-1) : Int32).toInt = v_x_number_i ∧ v_x_number.toInt = v_x_number_i + 1) ∨ (¬ (v_x_number_i < 20 ∧ 0 ≤ pT_i ∧ pT_i ≤ 4 ∧ 1 ≤ pS_i ∧ pS_i ≤ 60 ∧ 0 ≤ pF_i ∧ pF_i ≤ 2000 ∧ 0 ≤ pC_i ∧ pC_i ≤ 50) ∧ ((-1) : Int32).toInt = -1 ∧ v_x_number.toInt = v_x_number_i) := by omega
              have hf9_1 : 0 ≤ v_x_number.toInt ∧ v_x_number.toInt ≤ 20 := by omega
              have hf9_2 : zr f_x_teams 20 (0) (4) := R_x_teams
              exact W.iret (v := (-1)) hx hb hr (fun t ht hW => ⟨⟨(-1), (-1), rfl, rfl, v_x_number, f_x_teams, f_x_steady, f_x_full, f_x_climb, hf9_0, hf9_1, hf9_2, by rw [ht]; exact hP9, va_K.moved hW.alike hK, hD9⟩, hS.F ht⟩) hS.2.2 dX5_add_51
            ·
              have c_7 : ¬ (pF_i < (0:Int)) := zz_ltn pF_h (by decide) c_7
              refine lv_iload_n hx hb dX5_add_31 rfl (lv_at hl 3 rfl) ?_
              refine lv_sipush (v := 2000) hx hb dX5_add_32 (by decide) ?_
              refine lv_icmp_gt (tgt := 50) hx hb dX5_add_35 (by decide) (fun c_8 => ?_) (fun c_8 => ?_)
              ·
                have c_8 : (2000:Int) < pF_i := zz_lt (by decide) pF_h c_8
                refine lv_iconst (v := (-1)) hx hb dX5_add_50 (by decide) ?_
                have hu9 : ((-1) : Int32).toInt = (-1:Int) := (by decide)
                have hx9_w_h0_number : (v_x_number : Int32).toInt = v_x_number_i := v_x_number_h
                have hP9 := hP.sub (ws' := [(h0, .inr (5, [.int v_x_number, .ref x_teams, .ref x_steady, .ref x_full, .ref x_climb])), (x_teams, .inl (cI, 20, .inl f_x_teams)), (x_steady, .inl (cI, 20, .inl f_x_steady)), (x_full, .inl (cI, 20, .inl f_x_full)), (x_climb, .inl (cI, 20, .inl f_x_climb))]) [0, 1, 2, 3, 4] rfl
                have hD9 := hD.sub (ws' := [(h0, .inr (5, [.int v_x_number, .ref x_teams, .ref x_steady, .ref x_full, .ref x_climb])), (x_teams, .inl (cI, 20, .inl f_x_teams)), (x_steady, .inl (cI, 20, .inl f_x_steady)), (x_full, .inl (cI, 20, .inl f_x_full)), (x_climb, .inl (cI, 20, .inl f_x_climb))]) [0, 1, 2, 3, 4] (by decide) rfl
                have hf9_0 : ((v_x_number_i < 20 ∧ 0 ≤ pT_i ∧ pT_i ≤ 4 ∧ 1 ≤ pS_i ∧ pS_i ≤ 60 ∧ 0 ≤ pF_i ∧ pF_i ≤ 2000 ∧ 0 ≤ pC_i ∧ pC_i ≤ 50) ∧ ((-1) : Int32).toInt = v_x_number_i ∧ v_x_number.toInt = v_x_number_i + 1) ∨ (¬ (v_x_number_i < 20 ∧ 0 ≤ pT_i ∧ pT_i ≤ 4 ∧ 1 ≤ pS_i ∧ pS_i ≤ 60 ∧ 0 ≤ pF_i ∧ pF_i ≤ 2000 ∧ 0 ≤ pC_i ∧ pC_i ≤ 50) ∧ ((-1) : Int32).toInt = -1 ∧ v_x_number.toInt = v_x_number_i) := by omega
                have hf9_1 : 0 ≤ v_x_number.toInt ∧ v_x_number.toInt ≤ 20 := by omega
                have hf9_2 : zr f_x_teams 20 (0) (4) := R_x_teams
                exact W.iret (v := (-1)) hx hb hr (fun t ht hW => ⟨⟨(-1), (-1), rfl, rfl, v_x_number, f_x_teams, f_x_steady, f_x_full, f_x_climb, hf9_0, hf9_1, hf9_2, by rw [ht]; exact hP9, va_K.moved hW.alike hK, hD9⟩, hS.F ht⟩) hS.2.2 dX5_add_51
              ·
                have c_8 : ¬ ((2000:Int) < pF_i) := zz_ltn (by decide) pF_h c_8
                refine lv_iload hx hb dX5_add_38 (lv_at hl 4 rfl) ?_
                refine lv_if_lt (tgt := 50) hx hb dX5_add_40 (by decide) (fun c_9 => ?_) (fun c_9 => ?_)
                ·
                  have c_9 : pC_i < (0:Int) := zz_lt pC_h (by decide) c_9
                  refine lv_iconst (v := (-1)) hx hb dX5_add_50 (by decide) ?_
                  have hu9 : ((-1) : Int32).toInt = (-1:Int) := (by decide)
                  have hx9_w_h0_number : (v_x_number : Int32).toInt = v_x_number_i := v_x_number_h
                  have hP9 := hP.sub (ws' := [(h0, .inr (5, [.int v_x_number, .ref x_teams, .ref x_steady, .ref x_full, .ref x_climb])), (x_teams, .inl (cI, 20, .inl f_x_teams)), (x_steady, .inl (cI, 20, .inl f_x_steady)), (x_full, .inl (cI, 20, .inl f_x_full)), (x_climb, .inl (cI, 20, .inl f_x_climb))]) [0, 1, 2, 3, 4] rfl
                  have hD9 := hD.sub (ws' := [(h0, .inr (5, [.int v_x_number, .ref x_teams, .ref x_steady, .ref x_full, .ref x_climb])), (x_teams, .inl (cI, 20, .inl f_x_teams)), (x_steady, .inl (cI, 20, .inl f_x_steady)), (x_full, .inl (cI, 20, .inl f_x_full)), (x_climb, .inl (cI, 20, .inl f_x_climb))]) [0, 1, 2, 3, 4] (by decide) rfl
                  have hf9_0 : ((v_x_number_i < 20 ∧ 0 ≤ pT_i ∧ pT_i ≤ 4 ∧ 1 ≤ pS_i ∧ pS_i ≤ 60 ∧ 0 ≤ pF_i ∧ pF_i ≤ 2000 ∧ 0 ≤ pC_i ∧ pC_i ≤ 50) ∧ ((-1) : Int32).toInt = v_x_number_i ∧ v_x_number.toInt = v_x_number_i + 1) ∨ (¬ (v_x_number_i < 20 ∧ 0 ≤ pT_i ∧ pT_i ≤ 4 ∧ 1 ≤ pS_i ∧ pS_i ≤ 60 ∧ 0 ≤ pF_i ∧ pF_i ≤ 2000 ∧ 0 ≤ pC_i ∧ pC_i ≤ 50) ∧ ((-1) : Int32).toInt = -1 ∧ v_x_number.toInt = v_x_number_i) := by omega
                  have hf9_1 : 0 ≤ v_x_number.toInt ∧ v_x_number.toInt ≤ 20 := by omega
                  have hf9_2 : zr f_x_teams 20 (0) (4) := R_x_teams
                  exact W.iret (v := (-1)) hx hb hr (fun t ht hW => ⟨⟨(-1), (-1), rfl, rfl, v_x_number, f_x_teams, f_x_steady, f_x_full, f_x_climb, hf9_0, hf9_1, hf9_2, by rw [ht]; exact hP9, va_K.moved hW.alike hK, hD9⟩, hS.F ht⟩) hS.2.2 dX5_add_51
                ·
                  have c_9 : ¬ (pC_i < (0:Int)) := zz_ltn pC_h (by decide) c_9
                  refine lv_iload hx hb dX5_add_43 (lv_at hl 4 rfl) ?_
                  refine lv_bipush (v := 50) hx hb dX5_add_45 (by decide) ?_
                  refine lv_icmp_le (tgt := 52) hx hb dX5_add_47 (by decide) (fun c_10 => ?_) (fun c_10 => ?_)
                  ·
                    have c_10 : pC_i ≤ (50:Int) := zz_le pC_h (by decide) c_10
                    refine lv_aload_n hx hb dX5_add_52 rfl (lv_at hl 0 rfl) ?_
                    refine va_get (D := (dC, dI)) (ci := 5) (v := .ref x_teams) (C := RX5) (T := TX5) (N := 5) hx hb hts hiX5 hown hK hP 0 rfl rfl 1 (by decide) hw3 (fun _ h9 => h9) rfl dX5_add_53 ?_
                    refine lv_aload_n hx hb dX5_add_56 rfl (lv_at hl 0 rfl) ?_
                    refine va_get (D := (dC, dI)) (ci := 5) (v := .int v_x_number) (C := RX5) (T := TX5) (N := 5) hx hb hts hiX5 hown hK hP 0 rfl rfl 0 (by decide) hw0 (fun _ h9 => h9) rfl dX5_add_57 ?_
                    refine lv_iload_n hx hb dX5_add_60 rfl (lv_at hl 1 rfl) ?_
                    refine va_iast hx hb hK hP hD hS 1 0 rfl rfl (zz_in (a := v_x_number_i) v_x_number_h (by omega) (by omega)) dX5_add_61 (fun H locs hP hD hS => ?_)
                    have hP : va_P (dC, dI) vwCl [(h0, .inr (5, [.int v_x_number, .ref x_teams, .ref x_steady, .ref x_full, .ref x_climb])), (x_teams, .inl (cI, 20, .inl (upd f_x_teams (Int32.toNatClampNeg v_x_number) pT))), (x_steady, .inl (cI, 20, .inl f_x_steady)), (x_full, .inl (cI, 20, .inl f_x_full)), (x_climb, .inl (cI, 20, .inl f_x_climb))] H := hP
                    have hD : va_D A [(h0, .inr (5, [.int v_x_number, .ref x_teams, .ref x_steady, .ref x_full, .ref x_climb])), (x_teams, .inl (cI, 20, .inl (upd f_x_teams (Int32.toNatClampNeg v_x_number) pT))), (x_steady, .inl (cI, 20, .inl f_x_steady)), (x_full, .inl (cI, 20, .inl f_x_full)), (x_climb, .inl (cI, 20, .inl f_x_climb))] := hD
                    have R_12 : zr (upd f_x_teams (Int32.toNatClampNeg v_x_number) pT) 20 (0) (4) := zr_upd (b := pT_i) R_x_teams _ pT_h (by omega) (by omega)
                    generalize upd f_x_teams (Int32.toNatClampNeg v_x_number) pT = f_11 at hP hD R_12
                    refine lv_aload_n hx hb dX5_add_62 rfl (lv_at hl 0 rfl) ?_
                    refine va_get (D := (dC, dI)) (ci := 5) (v := .ref x_steady) (C := RX5) (T := TX5) (N := 5) hx hb hts hiX5 hown hK hP 0 rfl rfl 2 (by decide) hw4 (fun _ h9 => h9) rfl dX5_add_63 ?_
                    refine lv_aload_n hx hb dX5_add_66 rfl (lv_at hl 0 rfl) ?_
                    refine va_get (D := (dC, dI)) (ci := 5) (v := .int v_x_number) (C := RX5) (T := TX5) (N := 5) hx hb hts hiX5 hown hK hP 0 rfl rfl 0 (by decide) hw0 (fun _ h9 => h9) rfl dX5_add_67 ?_
                    refine lv_iload_n hx hb dX5_add_70 rfl (lv_at hl 2 rfl) ?_
                    refine va_iast hx hb hK hP hD hS 2 0 rfl rfl (zz_in (a := v_x_number_i) v_x_number_h (by omega) (by omega)) dX5_add_71 (fun H locs hP hD hS => ?_)
                    have hP : va_P (dC, dI) vwCl [(h0, .inr (5, [.int v_x_number, .ref x_teams, .ref x_steady, .ref x_full, .ref x_climb])), (x_teams, .inl (cI, 20, .inl f_11)), (x_steady, .inl (cI, 20, .inl (upd f_x_steady (Int32.toNatClampNeg v_x_number) pS))), (x_full, .inl (cI, 20, .inl f_x_full)), (x_climb, .inl (cI, 20, .inl f_x_climb))] H := hP
                    have hD : va_D A [(h0, .inr (5, [.int v_x_number, .ref x_teams, .ref x_steady, .ref x_full, .ref x_climb])), (x_teams, .inl (cI, 20, .inl f_11)), (x_steady, .inl (cI, 20, .inl (upd f_x_steady (Int32.toNatClampNeg v_x_number) pS))), (x_full, .inl (cI, 20, .inl f_x_full)), (x_climb, .inl (cI, 20, .inl f_x_climb))] := hD
                    generalize upd f_x_steady (Int32.toNatClampNeg v_x_number) pS = f_13 at hP hD
                    refine lv_aload_n hx hb dX5_add_72 rfl (lv_at hl 0 rfl) ?_
                    refine va_get (D := (dC, dI)) (ci := 5) (v := .ref x_full) (C := RX5) (T := TX5) (N := 5) hx hb hts hiX5 hown hK hP 0 rfl rfl 3 (by decide) hw5 (fun _ h9 => h9) rfl dX5_add_73 ?_
                    refine lv_aload_n hx hb dX5_add_76 rfl (lv_at hl 0 rfl) ?_
                    refine va_get (D := (dC, dI)) (ci := 5) (v := .int v_x_number) (C := RX5) (T := TX5) (N := 5) hx hb hts hiX5 hown hK hP 0 rfl rfl 0 (by decide) hw0 (fun _ h9 => h9) rfl dX5_add_77 ?_
                    refine lv_iload_n hx hb dX5_add_80 rfl (lv_at hl 3 rfl) ?_
                    refine va_iast hx hb hK hP hD hS 3 0 rfl rfl (zz_in (a := v_x_number_i) v_x_number_h (by omega) (by omega)) dX5_add_81 (fun H locs hP hD hS => ?_)
                    have hP : va_P (dC, dI) vwCl [(h0, .inr (5, [.int v_x_number, .ref x_teams, .ref x_steady, .ref x_full, .ref x_climb])), (x_teams, .inl (cI, 20, .inl f_11)), (x_steady, .inl (cI, 20, .inl f_13)), (x_full, .inl (cI, 20, .inl (upd f_x_full (Int32.toNatClampNeg v_x_number) pF))), (x_climb, .inl (cI, 20, .inl f_x_climb))] H := hP
                    have hD : va_D A [(h0, .inr (5, [.int v_x_number, .ref x_teams, .ref x_steady, .ref x_full, .ref x_climb])), (x_teams, .inl (cI, 20, .inl f_11)), (x_steady, .inl (cI, 20, .inl f_13)), (x_full, .inl (cI, 20, .inl (upd f_x_full (Int32.toNatClampNeg v_x_number) pF))), (x_climb, .inl (cI, 20, .inl f_x_climb))] := hD
                    generalize upd f_x_full (Int32.toNatClampNeg v_x_number) pF = f_14 at hP hD
                    refine lv_aload_n hx hb dX5_add_82 rfl (lv_at hl 0 rfl) ?_
                    refine va_get (D := (dC, dI)) (ci := 5) (v := .ref x_climb) (C := RX5) (T := TX5) (N := 5) hx hb hts hiX5 hown hK hP 0 rfl rfl 4 (by decide) hw6 (fun _ h9 => h9) rfl dX5_add_83 ?_
                    refine lv_aload_n hx hb dX5_add_86 rfl (lv_at hl 0 rfl) ?_
                    refine va_get (D := (dC, dI)) (ci := 5) (v := .int v_x_number) (C := RX5) (T := TX5) (N := 5) hx hb hts hiX5 hown hK hP 0 rfl rfl 0 (by decide) hw0 (fun _ h9 => h9) rfl dX5_add_87 ?_
                    refine lv_iload hx hb dX5_add_90 (lv_at hl 4 rfl) ?_
                    refine va_iast hx hb hK hP hD hS 4 0 rfl rfl (zz_in (a := v_x_number_i) v_x_number_h (by omega) (by omega)) dX5_add_92 (fun H locs hP hD hS => ?_)
                    have hP : va_P (dC, dI) vwCl [(h0, .inr (5, [.int v_x_number, .ref x_teams, .ref x_steady, .ref x_full, .ref x_climb])), (x_teams, .inl (cI, 20, .inl f_11)), (x_steady, .inl (cI, 20, .inl f_13)), (x_full, .inl (cI, 20, .inl f_14)), (x_climb, .inl (cI, 20, .inl (upd f_x_climb (Int32.toNatClampNeg v_x_number) pC)))] H := hP
                    have hD : va_D A [(h0, .inr (5, [.int v_x_number, .ref x_teams, .ref x_steady, .ref x_full, .ref x_climb])), (x_teams, .inl (cI, 20, .inl f_11)), (x_steady, .inl (cI, 20, .inl f_13)), (x_full, .inl (cI, 20, .inl f_14)), (x_climb, .inl (cI, 20, .inl (upd f_x_climb (Int32.toNatClampNeg v_x_number) pC)))] := hD
                    generalize upd f_x_climb (Int32.toNatClampNeg v_x_number) pC = f_15 at hP hD
                    refine lv_aload_n hx hb dX5_add_93 rfl (lv_at hl 0 rfl) ?_
                    refine lv_dup hx hb dX5_add_94 rfl ?_
                    refine va_get (D := (dC, dI)) (ci := 5) (v := .int v_x_number) (C := RX5) (T := TX5) (N := 5) hx hb hts hiX5 hown hK hP 0 rfl rfl 0 (by decide) hw0 (fun _ h9 => h9) rfl dX5_add_95 ?_
                    refine lv_iconst (v := 1) hx hb dX5_add_98 (by decide) ?_
                    refine lv_iadd hx hb dX5_add_99 ?_
                    refine lv_topi (fun v_16 ev_16 => ?_)
                    have hv_16 : v_16.toInt = (v_x_number_i + (1:Int)) := by rw [ev_16]; exact zz_addI v_x_number_h (by decide) (by omega) (by omega)
                    refine va_put (D := (dC, dI)) (ci := 5) (v := .int v_16) (ty := .int) (C := RX5) (T := TX5) (N := 5) hx hb hts hiX5 tyX5 tyX5_ok nmX5 hown hK hP hD hS 0 rfl rfl 0 (by decide) hw0 (fun _ h9 => h9) rfl (by decide +kernel) rfl rfl (Nat.le_of_ble_eq_true rfl) dX5_add_100 (fun H locs hP hD hS => ?_)
                    have hP : va_P (dC, dI) vwCl [(h0, .inr (5, [.int v_16, .ref x_teams, .ref x_steady, .ref x_full, .ref x_climb])), (x_teams, .inl (cI, 20, .inl f_11)), (x_steady, .inl (cI, 20, .inl f_13)), (x_full, .inl (cI, 20, .inl f_14)), (x_climb, .inl (cI, 20, .inl f_15))] H := hP
                    have hD : va_D A [(h0, .inr (5, [.int v_16, .ref x_teams, .ref x_steady, .ref x_full, .ref x_climb])), (x_teams, .inl (cI, 20, .inl f_11)), (x_steady, .inl (cI, 20, .inl f_13)), (x_full, .inl (cI, 20, .inl f_14)), (x_climb, .inl (cI, 20, .inl f_15))] := hD
                    refine lv_aload_n hx hb dX5_add_103 rfl (lv_at hl 0 rfl) ?_
                    refine va_get (D := (dC, dI)) (ci := 5) (v := .int v_16) (C := RX5) (T := TX5) (N := 5) hx hb hts hiX5 hown hK hP 0 rfl rfl 0 (by decide) hw0 (fun _ h9 => h9) rfl dX5_add_104 ?_
                    refine lv_iconst (v := 1) hx hb dX5_add_107 (by decide) ?_
                    refine lv_isub hx hb dX5_add_108 ?_
                    refine lv_topi (fun v_17 ev_17 => ?_)
                    have hv_17 : v_17.toInt = ((v_x_number_i + (1:Int)) - (1:Int)) := by rw [ev_17]; exact zz_subI hv_16 (by decide) (by omega) (by omega)
                    have hu9 : (v_17 : Int32).toInt = ((v_x_number_i + (1:Int)) - (1:Int)) := hv_17
                    have hx9_w_h0_number : (v_16 : Int32).toInt = (v_x_number_i + (1:Int)) := hv_16
                    have hP9 := hP.sub (ws' := [(h0, .inr (5, [.int v_16, .ref x_teams, .ref x_steady, .ref x_full, .ref x_climb])), (x_teams, .inl (cI, 20, .inl f_11)), (x_steady, .inl (cI, 20, .inl f_13)), (x_full, .inl (cI, 20, .inl f_14)), (x_climb, .inl (cI, 20, .inl f_15))]) [0, 1, 2, 3, 4] rfl
                    have hD9 := hD.sub (ws' := [(h0, .inr (5, [.int v_16, .ref x_teams, .ref x_steady, .ref x_full, .ref x_climb])), (x_teams, .inl (cI, 20, .inl f_11)), (x_steady, .inl (cI, 20, .inl f_13)), (x_full, .inl (cI, 20, .inl f_14)), (x_climb, .inl (cI, 20, .inl f_15))]) [0, 1, 2, 3, 4] (by decide) rfl
                    have hf9_0 : ((v_x_number_i < 20 ∧ 0 ≤ pT_i ∧ pT_i ≤ 4 ∧ 1 ≤ pS_i ∧ pS_i ≤ 60 ∧ 0 ≤ pF_i ∧ pF_i ≤ 2000 ∧ 0 ≤ pC_i ∧ pC_i ≤ 50) ∧ v_17.toInt = v_x_number_i ∧ v_16.toInt = v_x_number_i + 1) ∨ (¬ (v_x_number_i < 20 ∧ 0 ≤ pT_i ∧ pT_i ≤ 4 ∧ 1 ≤ pS_i ∧ pS_i ≤ 60 ∧ 0 ≤ pF_i ∧ pF_i ≤ 2000 ∧ 0 ≤ pC_i ∧ pC_i ≤ 50) ∧ v_17.toInt = -1 ∧ v_16.toInt = v_x_number_i) := by omega
                    have hf9_1 : 0 ≤ v_16.toInt ∧ v_16.toInt ≤ 20 := by omega
                    have hf9_2 : zr f_11 20 (0) (4) := R_12
                    exact W.iret (v := v_17) hx hb hr (fun t ht hW => ⟨⟨v_17, v_17, rfl, rfl, v_16, f_11, f_13, f_14, f_15, hf9_0, hf9_1, hf9_2, by rw [ht]; exact hP9, va_K.moved hW.alike hK, hD9⟩, hS.F ht⟩) hS.2.2 dX5_add_109
                  ·
                    have c_10 : ¬ (pC_i ≤ (50:Int)) := zz_len pC_h (by decide) c_10
                    refine lv_iconst (v := (-1)) hx hb dX5_add_50 (by decide) ?_
                    have hu9 : ((-1) : Int32).toInt = (-1:Int) := (by decide)
                    have hx9_w_h0_number : (v_x_number : Int32).toInt = v_x_number_i := v_x_number_h
                    have hP9 := hP.sub (ws' := [(h0, .inr (5, [.int v_x_number, .ref x_teams, .ref x_steady, .ref x_full, .ref x_climb])), (x_teams, .inl (cI, 20, .inl f_x_teams)), (x_steady, .inl (cI, 20, .inl f_x_steady)), (x_full, .inl (cI, 20, .inl f_x_full)), (x_climb, .inl (cI, 20, .inl f_x_climb))]) [0, 1, 2, 3, 4] rfl
                    have hD9 := hD.sub (ws' := [(h0, .inr (5, [.int v_x_number, .ref x_teams, .ref x_steady, .ref x_full, .ref x_climb])), (x_teams, .inl (cI, 20, .inl f_x_teams)), (x_steady, .inl (cI, 20, .inl f_x_steady)), (x_full, .inl (cI, 20, .inl f_x_full)), (x_climb, .inl (cI, 20, .inl f_x_climb))]) [0, 1, 2, 3, 4] (by decide) rfl
                    have hf9_0 : ((v_x_number_i < 20 ∧ 0 ≤ pT_i ∧ pT_i ≤ 4 ∧ 1 ≤ pS_i ∧ pS_i ≤ 60 ∧ 0 ≤ pF_i ∧ pF_i ≤ 2000 ∧ 0 ≤ pC_i ∧ pC_i ≤ 50) ∧ ((-1) : Int32).toInt = v_x_number_i ∧ v_x_number.toInt = v_x_number_i + 1) ∨ (¬ (v_x_number_i < 20 ∧ 0 ≤ pT_i ∧ pT_i ≤ 4 ∧ 1 ≤ pS_i ∧ pS_i ≤ 60 ∧ 0 ≤ pF_i ∧ pF_i ≤ 2000 ∧ 0 ≤ pC_i ∧ pC_i ≤ 50) ∧ ((-1) : Int32).toInt = -1 ∧ v_x_number.toInt = v_x_number_i) := by omega
                    have hf9_1 : 0 ≤ v_x_number.toInt ∧ v_x_number.toInt ≤ 20 := by omega
                    have hf9_2 : zr f_x_teams 20 (0) (4) := R_x_teams
                    exact W.iret (v := (-1)) hx hb hr (fun t ht hW => ⟨⟨(-1), (-1), rfl, rfl, v_x_number, f_x_teams, f_x_steady, f_x_full, f_x_climb, hf9_0, hf9_1, hf9_2, by rw [ht]; exact hP9, va_K.moved hW.alike hK, hD9⟩, hS.F ht⟩) hS.2.2 dX5_add_51
    ·
      refine lv_if_eq (tgt := 50) hx hb dX5_add_13 (by decide) (fun c_18 => ?_) (fun c_18 => ?_)
      ·
        refine lv_iconst (v := (-1)) hx hb dX5_add_50 (by decide) ?_
        have hu9 : ((-1) : Int32).toInt = (-1:Int) := (by decide)
        have hx9_w_h0_number : (v_x_number : Int32).toInt = v_x_number_i := v_x_number_h
        have hP9 := hP.sub (ws' := [(h0, .inr (5, [.int v_x_number, .ref x_teams, .ref x_steady, .ref x_full, .ref x_climb])), (x_teams, .inl (cI, 20, .inl f_x_teams)), (x_steady, .inl (cI, 20, .inl f_x_steady)), (x_full, .inl (cI, 20, .inl f_x_full)), (x_climb, .inl (cI, 20, .inl f_x_climb))]) [0, 1, 2, 3, 4] rfl
        have hD9 := hD.sub (ws' := [(h0, .inr (5, [.int v_x_number, .ref x_teams, .ref x_steady, .ref x_full, .ref x_climb])), (x_teams, .inl (cI, 20, .inl f_x_teams)), (x_steady, .inl (cI, 20, .inl f_x_steady)), (x_full, .inl (cI, 20, .inl f_x_full)), (x_climb, .inl (cI, 20, .inl f_x_climb))]) [0, 1, 2, 3, 4] (by decide) rfl
        have hf9_0 : ((v_x_number_i < 20 ∧ 0 ≤ pT_i ∧ pT_i ≤ 4 ∧ 1 ≤ pS_i ∧ pS_i ≤ 60 ∧ 0 ≤ pF_i ∧ pF_i ≤ 2000 ∧ 0 ≤ pC_i ∧ pC_i ≤ 50) ∧ ((-1) : Int32).toInt = v_x_number_i ∧ v_x_number.toInt = v_x_number_i + 1) ∨ (¬ (v_x_number_i < 20 ∧ 0 ≤ pT_i ∧ pT_i ≤ 4 ∧ 1 ≤ pS_i ∧ pS_i ≤ 60 ∧ 0 ≤ pF_i ∧ pF_i ≤ 2000 ∧ 0 ≤ pC_i ∧ pC_i ≤ 50) ∧ ((-1) : Int32).toInt = -1 ∧ v_x_number.toInt = v_x_number_i) := by omega
        have hf9_1 : 0 ≤ v_x_number.toInt ∧ v_x_number.toInt ≤ 20 := by omega
        have hf9_2 : zr f_x_teams 20 (0) (4) := R_x_teams
        exact W.iret (v := (-1)) hx hb hr (fun t ht hW => ⟨⟨(-1), (-1), rfl, rfl, v_x_number, f_x_teams, f_x_steady, f_x_full, f_x_climb, hf9_0, hf9_1, hf9_2, by rw [ht]; exact hP9, va_K.moved hW.alike hK, hD9⟩, hS.F ht⟩) hS.2.2 dX5_add_51
      ·
        exact absurd c_18 (by decide)
