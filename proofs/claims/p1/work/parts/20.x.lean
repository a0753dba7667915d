set_option maxHeartbeats 4000000 in
set_option maxRecDepth 100000 in
theorem c_X9_isTeam (l : Launch) (dC : Nat → ClassId) (dI : Nat → Nat → Nat) (cI cZ : ClassId) (sz : Nat) (pT : Int32) (pT_i : Int) (pT_h : pT.toInt = pT_i) : Met l yX9_isTeam (Cond.code yX9_isTeam cX9_isTeam 1 (some .boolean) :: lw_good) ({ frames := 0, cells := 0, slots := 0, locals := 0 }) (va_Pc [.int pT] (fun U => U.heap.size = sz ∧ va_P (dC, dI) vwCl [] U.heap ∧ va_K (dC, dI) vwCl [(cI, .int), (cZ, .boolean)] U ∧ va_D (fun _ => True) [])) (va_Qi (fun (r u : Int32) => r = u) (fun u t => ((u = 1 ∧ (0 ≤ pT_i ∧ pT_i ≤ 4)) ∨ (u = 0 ∧ ¬ (0 ≤ pT_i ∧ pT_i ≤ 4))) ∧ va_P (dC, dI) vwCl [] t.heap ∧ va_K (dC, dI) vwCl [(cI, .int), (cZ, .boolean)] t ∧ va_D (va_A [] sz) []) (va_A [] sz)) 0 0 (va_A [] sz) := by
  refine Met.ofW (cc := cX9_isTeam) (maxL := 1) (ret := (some .boolean)) (by decide) rfl ?_
  intro p e s m args below meth c s₁ B hml hv
  obtain ⟨rfl, hsz, hP, hK, hD0⟩ := hv
  have hx := B.exec
  have hb := B.bytes
  have hr := B.returns
  have hts := atoms_spec (ws := Cond.code yX9_isTeam cX9_isTeam 1 (some .boolean) :: lw_good) B.pre
  have hown : s.vm.findClass RX9 = some m.cls := findClass_of_methodNamed B.named
  have hlocks := B.notSynchronized
  subst hsz
  have hD := hD0.self (sz := s.heap.size)
  generalize hAe : va_A [] s.heap.size = A at hD ⊢
  have hA : ∀ q : Nat, s.heap.size ≤ q → A q := fun q h => by rw [← hAe]; exact Or.inr h
  have hS : va_S A s.heap s.heap [] := va_S.rf
  have hP : va_P (dC, dI) vwCl [] s.heap := hP
  have hl := lv_entry ([.int pT]) (n := 1) (Nat.le_of_ble_eq_true rfl)
  rw [lg_entry_eq]
  generalize (lg_sl ([.int pT]) ++ List.replicate (1 - (lg_sl ([.int pT])).length) Slot.unset).toArray = ls at hl ⊢
  have hl : lv_has ls 1 [(0, .int pT)] := hl
  refine lv_iload_n hx hb dX9_isTeam_0 rfl (lv_at hl 0 rfl) ?_
  refine lv_if_lt (tgt := 13) hx hb dX9_isTeam_1 (by decide) (fun c_1 => ?_) (fun c_1 => ?_)
  ·
    have c_1 : pT_i < (0:Int) := zz_lt pT_h (by decide) c_1
    refine lv_iconst (v := 0) hx hb dX9_isTeam_13 (by decide) ?_
    have hP9 := hP.sub (ws' := []) [] rfl
    have hD9 := hD.sub (ws' := []) [] (by decide) rfl
    refine W.widen (k := 0) (n := 0) (Nat.le_of_ble_eq_true rfl) (Nat.le_of_ble_eq_true rfl) ?_
    have hu9 : (0 : Int32).toInt = (0:Int) := (by decide)
    have hf9_0 : ((0 : Int32) = 1 ∧ (0 ≤ pT_i ∧ pT_i ≤ 4)) ∨ ((0 : Int32) = 0 ∧ ¬ (0 ≤ pT_i ∧ pT_i ≤ 4)) := Or.inr ⟨rfl, by omega⟩
    exact W.zret (v := 0) hx hb hr rfl (fun t ht hW => ⟨⟨0, 0, rfl, rfl, hf9_0, by rw [ht]; exact hP9, va_K.moved hW.alike hK, hD9⟩, hS.F ht⟩) hS.2.2 dX9_isTeam_14
  ·
    have c_1 : ¬ (pT_i < (0:Int)) := zz_ltn pT_h (by decide) c_1
    refine lv_iload_n hx hb dX9_isTeam_4 rfl (lv_at hl 0 rfl) ?_
    refine lv_iconst (v := 5) hx hb dX9_isTeam_5 (by decide) ?_
    refine lv_icmp_ge (tgt := 13) hx hb dX9_isTeam_6 (by decide) (fun c_2 => ?_) (fun c_2 => ?_)
    ·
      have c_2 : (5:Int) ≤ pT_i := zz_le (by decide) pT_h c_2
      refine lv_iconst (v := 0) hx hb dX9_isTeam_13 (by decide) ?_
      have hP9 := hP.sub (ws' := []) [] rfl
      have hD9 := hD.sub (ws' := []) [] (by decide) rfl
      refine W.widen (k := 0) (n := 0) (Nat.le_of_ble_eq_true rfl) (Nat.le_of_ble_eq_true rfl) ?_
      have hu9 : (0 : Int32).toInt = (0:Int) := (by decide)
      have hf9_0 : ((0 : Int32) = 1 ∧ (0 ≤ pT_i ∧ pT_i ≤ 4)) ∨ ((0 : Int32) = 0 ∧ ¬ (0 ≤ pT_i ∧ pT_i ≤ 4)) := Or.inr ⟨rfl, by omega⟩
      exact W.zret (v := 0) hx hb hr rfl (fun t ht hW => ⟨⟨0, 0, rfl, rfl, hf9_0, by rw [ht]; exact hP9, va_K.moved hW.alike hK, hD9⟩, hS.F ht⟩) hS.2.2 dX9_isTeam_14
    ·
      have c_2 : ¬ ((5:Int) ≤ pT_i) := zz_len (by decide) pT_h c_2
      refine lv_iconst (v := 1) hx hb dX9_isTeam_9 (by decide) ?_
      refine lv_goto (tgt := 14) hx hb dX9_isTeam_10 (by decide) ?_
      have hP9 := hP.sub (ws' := []) [] rfl
      have hD9 := hD.sub (ws' := []) [] (by decide) rfl
      refine W.widen (k := 0) (n := 0) (Nat.le_of_ble_eq_true rfl) (Nat.le_of_ble_eq_true rfl) ?_
      have hu9 : (1 : Int32).toInt = (1:Int) := (by decide)
      have hf9_0 : ((1 : Int32) = 1 ∧ (0 ≤ pT_i ∧ pT_i ≤ 4)) ∨ ((1 : Int32) = 0 ∧ ¬ (0 ≤ pT_i ∧ pT_i ≤ 4)) := Or.inl ⟨rfl, by omega⟩
      exact W.zret (v := 1) hx hb hr rfl (fun t ht hW => ⟨⟨1, 1, rfl, rfl, hf9_0, by rw [ht]; exact hP9, va_K.moved hW.alike hK, hD9⟩, hS.F ht⟩) hS.2.2 dX9_isTeam_14

set_option maxHeartbeats 4000000 in
set_option maxRecDepth 100000 in
theorem c_X5_add (l : Launch) (dC : Nat → ClassId) (dI : Nat → Nat → Nat) (cI cZ : ClassId) (sz : Nat) (h0 : Nat) (x_teams : Nat) (x_steady : Nat) (x_full : Nat) (x_climb : Nat) (pT : Int32) (pT_i : Int) (pT_h : pT.toInt = pT_i) (pS : Int32) (pS_i : Int) (pS_h : pS.toInt = pS_i) (pF : Int32) (pF_i : Int) (pF_h : pF.toInt = pF_i) (pC : Int32) (pC_i : Int) (pC_h : pC.toInt = pC_i) : Met l yX5_add (Cond.code yX5_add cX5_add 5 (some .int) :: lw_good) ({ frames := 1, cells := 0, slots := 0, locals := 20 }) (va_Pc [.ref h0, .int pT, .int pS, .int pF, .int pC] (fun U => U.heap.size = sz ∧ va_P (dC, dI) vwCl [(h0, .inr (5, [.int 0, .ref x_teams, .ref x_steady, .ref x_full, .ref x_climb])), (x_teams, .inl (cI, 20, .inl (fun _ => 0))), (x_steady, .inl (cI, 20, .inl (fun _ => 0))), (x_full, .inl (cI, 20, .inl (fun _ => 0))), (x_climb, .inl (cI, 20, .inl (fun _ => 0)))] U.heap ∧ va_K (dC, dI) vwCl [(cI, .int), (cZ, .boolean)] U ∧ va_D (fun _ => True) [(h0, .inr (5, [.int 0, .ref x_teams, .ref x_steady, .ref x_full, .ref x_climb])), (x_teams, .inl (cI, 20, .inl (fun _ => 0))), (x_steady, .inl (cI, 20, .inl (fun _ => 0))), (x_full, .inl (cI, 20, .inl (fun _ => 0))), (x_climb, .inl (cI, 20, .inl (fun _ => 0)))] ∧ va_Nw (.methodLinkNest RX5 28 yX9_isTeam "BunchRace") U)) (va_Qi (fun (r u : Int32) => r = u) (fun u t => (((0 ≤ pT_i ∧ pT_i ≤ 4 ∧ 1 ≤ pS_i ∧ pS_i ≤ 60 ∧ 0 ≤ pF_i ∧ pF_i ≤ 2000 ∧ 0 ≤ pC_i ∧ pC_i ≤ 50) ∧ u.toInt = 0) ∨ (¬ (0 ≤ pT_i ∧ pT_i ≤ 4 ∧ 1 ≤ pS_i ∧ pS_i ≤ 60 ∧ 0 ≤ pF_i ∧ pF_i ≤ 2000 ∧ 0 ≤ pC_i ∧ pC_i ≤ 50) ∧ u.toInt = -1)) ∧ va_P (dC, dI) vwCl [] t.heap ∧ va_K (dC, dI) vwCl [(cI, .int), (cZ, .boolean)] t ∧ va_D (va_A [(h0, .inr (5, [.int 0, .ref x_teams, .ref x_steady, .ref x_full, .ref x_climb])), (x_teams, .inl (cI, 20, .inl (fun _ => 0))), (x_steady, .inl (cI, 20, .inl (fun _ => 0))), (x_full, .inl (cI, 20, .inl (fun _ => 0))), (x_climb, .inl (cI, 20, .inl (fun _ => 0)))] sz) []) (va_A [(h0, .inr (5, [.int 0, .ref x_teams, .ref x_steady, .ref x_full, .ref x_climb])), (x_teams, .inl (cI, 20, .inl (fun _ => 0))), (x_steady, .inl (cI, 20, .inl (fun _ => 0))), (x_full, .inl (cI, 20, .inl (fun _ => 0))), (x_climb, .inl (cI, 20, .inl (fun _ => 0)))] sz)) 0 0 (va_A [(h0, .inr (5, [.int 0, .ref x_teams, .ref x_steady, .ref x_full, .ref x_climb])), (x_teams, .inl (cI, 20, .inl (fun _ => 0))), (x_steady, .inl (cI, 20, .inl (fun _ => 0))), (x_full, .inl (cI, 20, .inl (fun _ => 0))), (x_climb, .inl (cI, 20, .inl (fun _ => 0)))] sz) := by
  refine Met.ofW (cc := cX5_add) (maxL := 5) (ret := (some .int)) (by decide) rfl ?_
  intro p e s m args below meth c s₁ B hml hv
  obtain ⟨rfl, hsz, hP, hK, hD0, hnX5_28⟩ := hv
  have hx := B.exec
  have hb := B.bytes
  have hr := B.returns
  have hts := atoms_spec (ws := Cond.code yX5_add cX5_add 5 (some .int) :: lw_good) B.pre
  have hown : s.vm.findClass RX5 = some m.cls := findClass_of_methodNamed B.named
  have hlocks := B.notSynchronized
  have hiX5 : ∀ w ∈ wsX50, w ∈ (Cond.code yX5_add cX5_add 5 (some .int) :: lw_good) := fun w h => List.mem_cons_of_mem _ (zi_X5 w h)
  have hw0 := hts (.fieldLink RX5 9 "BunchRace$Riders" "number" "I") (List.mem_cons_of_mem _ zw_74)
  have hw1 := hts (.initialized RX9) (List.mem_cons_of_mem _ zw_48)
  have hw2 := hts (.static yX9_isTeam) (List.mem_cons_of_mem _ zw_380)
  have hw3 := hts (.fieldLink RX5 15 "BunchRace$Riders" "teams" "[I") (List.mem_cons_of_mem _ zw_78)
  have hw4 := hts (.fieldLink RX5 19 "BunchRace$Riders" "steady" "[I") (List.mem_cons_of_mem _ zw_81)
  have hw5 := hts (.fieldLink RX5 22 "BunchRace$Riders" "full" "[I") (List.mem_cons_of_mem _ zw_83)
  have hw6 := hts (.fieldLink RX5 25 "BunchRace$Riders" "climb" "[I") (List.mem_cons_of_mem _ zw_85)
  subst hsz
  have hD := hD0.self (sz := s.heap.size)
  generalize hAe : va_A [(h0, .inr (5, [.int 0, .ref x_teams, .ref x_steady, .ref x_full, .ref x_climb])), (x_teams, .inl (cI, 20, .inl (fun _ => 0))), (x_steady, .inl (cI, 20, .inl (fun _ => 0))), (x_full, .inl (cI, 20, .inl (fun _ => 0))), (x_climb, .inl (cI, 20, .inl (fun _ => 0)))] s.heap.size = A at hD ⊢
  have hA : ∀ q : Nat, s.heap.size ≤ q → A q := fun q h => by rw [← hAe]; exact Or.inr h
  have hS : va_S A s.heap s.heap [] := va_S.rf
  have hP : va_P (dC, dI) vwCl [(h0, .inr (5, [.int 0, .ref x_teams, .ref x_steady, .ref x_full, .ref x_climb])), (x_teams, .inl (cI, 20, .inl (fun _ => 0))), (x_steady, .inl (cI, 20, .inl (fun _ => 0))), (x_full, .inl (cI, 20, .inl (fun _ => 0))), (x_climb, .inl (cI, 20, .inl (fun _ => 0)))] s.heap := hP
  have hl := lv_entry ([.ref h0, .int pT, .int pS, .int pF, .int pC]) (n := 5) (Nat.le_of_ble_eq_true rfl)
  rw [lg_entry_eq]
  generalize (lg_sl ([.ref h0, .int pT, .int pS, .int pF, .int pC]) ++ List.replicate (5 - (lg_sl ([.ref h0, .int pT, .int pS, .int pF, .int pC])).length) Slot.unset).toArray = ls at hl ⊢
  have hl : lv_has ls 5 [(0, .ref h0), (1, .int pT), (2, .int pS), (3, .int pF), (4, .int pC)] := hl
  refine lv_aload_n hx hb dX5_add_0 rfl (lv_at hl 0 rfl) ?_
  refine va_get (D := (dC, dI)) (ci := 5) (v := .int 0) (C := RX5) (T := TX5) (N := 5) hx hb hts hiX5 hown hK hP 0 rfl rfl 0 (by decide) hw0 (fun _ h9 => h9) rfl dX5_add_1 ?_
  refine lv_bipush (v := 20) hx hb dX5_add_4 (by decide) ?_
  refine lv_icmp_ge (tgt := 50) hx hb dX5_add_6 (by decide) (fun c_1 => ?_) (fun c_1 => ?_)
  ·
    exact absurd c_1 (by decide)
  ·
    refine lv_iload_n hx hb dX5_add_9 rfl (lv_at hl 1 rfl) ?_
    have hPc := hP.sub (ws' := []) [] rfl
    have hDc := hD.sub (ws' := []) [] (by decide) rfl
    have hFc := va_free (wc := []) hD hS hA [] rfl
    refine va_calli (va_runSN (As := [.int pT]) (rest := []) ⟨hx, hb, hml, hown, hts⟩ (c_X9_isTeam l dC dI cI cZ (s.heap).size pT pT_i pT_h) ⟨va_cnB (host := "BunchRace") 1 hts (zz_good zw_381) rfl rfl rfl hnX5_28 hw1 (by decide +kernel) ⟨Nat.le_of_ble_eq_true rfl, Nat.le_of_ble_eq_true rfl⟩, hw2, trivial⟩ ⟨fun a U g mk q => by obtain ⟨q0, q1, qP, qK, qD⟩ := q; exact ⟨q0, q1, qP, va_K.moved (u := U) (U := U.calling g mk a) (Vm.Alike.refl U.vm) qK, qD⟩, fun U hU hW => ⟨rfl, by rw [hU], by rw [hU]; exact hPc, va_K.moved hW.alike hK, hDc.weaken (fun _ _ _ _ => trivial)⟩⟩ rfl rfl hl.1 rfl (lv_room (Nat.le_of_ble_eq_true rfl)) dX5_add_10 ⟨Nat.le_of_ble_eq_true rfl, Nat.le_of_ble_eq_true rfl⟩) hS (fun q _ h => hFc q h) hFc (fun r_2 u t H1 locs ht hvm hpost hB hz1 hk1 hS => ?_)
    subst hpost
    obtain ⟨hf_3, hP1, hK1, hD1⟩ := hB
    rw [ht] at hP1
    obtain ⟨hP, hD⟩ := va_join (wr := [(h0, .inr (5, [.int 0, .ref x_teams, .ref x_steady, .ref x_full, .ref x_climb])), (x_teams, .inl (cI, 20, .inl (fun _ => 0))), (x_steady, .inl (cI, 20, .inl (fun _ => 0))), (x_full, .inl (cI, 20, .inl (fun _ => 0))), (x_climb, .inl (cI, 20, .inl (fun _ => 0)))]) (w1 := []) hP hD [] [0, 1, 2, 3, 4] rfl rfl (by decide) (by decide) hk1 hFc hP1 hD1
    generalize H1 = H at hP hS ⊢
    have hP : va_P (dC, dI) vwCl [(h0, .inr (5, [.int 0, .ref x_teams, .ref x_steady, .ref x_full, .ref x_climb])), (x_teams, .inl (cI, 20, .inl (fun _ => 0))), (x_steady, .inl (cI, 20, .inl (fun _ => 0))), (x_full, .inl (cI, 20, .inl (fun _ => 0))), (x_climb, .inl (cI, 20, .inl (fun _ => 0)))] H := hP
    have hD : va_D A [(h0, .inr (5, [.int 0, .ref x_teams, .ref x_steady, .ref x_full, .ref x_climb])), (x_teams, .inl (cI, 20, .inl (fun _ => 0))), (x_steady, .inl (cI, 20, .inl (fun _ => 0))), (x_full, .inl (cI, 20, .inl (fun _ => 0))), (x_climb, .inl (cI, 20, .inl (fun _ => 0)))] := hD
    have hf_3 : (r_2 = 1 ∧ (0 ≤ pT_i ∧ pT_i ≤ 4)) ∨ (r_2 = 0 ∧ ¬ (0 ≤ pT_i ∧ pT_i ≤ 4)) := hf_3
    rcases hf_3 with ⟨rfl, hf_3⟩ | ⟨rfl, hf_3⟩
    ·
      refine lv_if_eq (tgt := 50) hx hb dX5_add_13 (by decide) (fun c_4 => ?_) (fun c_4 => ?_)
      ·
        exact absurd c_4 (by decide)
      ·
        refine lv_iload_n hx hb dX5_add_16 rfl (lv_at hl 2 rfl) ?_
        refine lv_iconst (v := 1) hx hb dX5_add_17 (by decide) ?_
        refine lv_icmp_lt (tgt := 50) hx hb dX5_add_18 (by decide) (fun c_5 => ?_) (fun c_5 => ?_)
        ·
          have c_5 : pS_i < (1:Int) := zz_lt pS_h (by decide) c_5
          refine lv_iconst (v := (-1)) hx hb dX5_add_50 (by decide) ?_
          have hP9 := hP.sub (ws' := []) [] rfl
          have hD9 := hD.sub (ws' := []) [] (by decide) rfl
          refine W.widen (k := 0) (n := 0) (Nat.le_of_ble_eq_true rfl) (Nat.le_of_ble_eq_true rfl) ?_
          have hu9 : ((-1) : Int32).toInt = (-1:Int) := (by decide)
          have hf9_0 : ((0 ≤ pT_i ∧ pT_i ≤ 4 ∧ 1 ≤ pS_i ∧ pS_i ≤ 60 ∧ 0 ≤ pF_i ∧ pF_i ≤ 2000 ∧ 0 ≤ pC_i ∧ pC_i ≤ 50) ∧ ((-1) : Int32).toInt = 0) ∨ (¬ (0 ≤ pT_i ∧ pT_i ≤ 4 ∧ 1 ≤ pS_i ∧ pS_i ≤ 60 ∧ 0 ≤ pF_i ∧ pF_i ≤ 2000 ∧ 0 ≤ pC_i ∧ pC_i ≤ 50) ∧ ((-1) : Int32).toInt = -1) := by omega
          exact W.iret (v := (-1)) hx hb hr (fun t ht hW => ⟨⟨(-1), (-1), rfl, rfl, hf9_0, by rw [ht]; exact hP9, va_K.moved hW.alike hK, hD9⟩, hS.F ht⟩) hS.2.2 dX5_add_51
        ·
          have c_5 : ¬ (pS_i < (1:Int)) := zz_ltn pS_h (by decide) c_5
          refine lv_iload_n hx hb dX5_add_21 rfl (lv_at hl 2 rfl) ?_
          refine lv_bipush (v := 60) hx hb dX5_add_22 (by decide) ?_
          refine lv_icmp_gt (tgt := 50) hx hb dX5_add_24 (by decide) (fun c_6 => ?_) (fun c_6 => ?_)
          ·
            have c_6 : (60:Int) < pS_i := zz_lt (by decide) pS_h c_6
            refine lv_iconst (v := (-1)) hx hb dX5_add_50 (by decide) ?_
            have hP9 := hP.sub (ws' := []) [] rfl
            have hD9 := hD.sub (ws' := []) [] (by decide) rfl
            refine W.widen (k := 0) (n := 0) (Nat.le_of_ble_eq_true rfl) (Nat.le_of_ble_eq_true rfl) ?_
            have hu9 : ((-1) : Int32).toInt = (-1:Int) := (by decide)
            have hf9_0 : ((0 ≤ pT_i ∧ pT_i ≤ 4 ∧ 1 ≤ pS_i ∧ pS_i ≤ 60 ∧ 0 ≤ pF_i ∧ pF_i ≤ 2000 ∧ 0 ≤ pC_i ∧ pC_i ≤ 50) ∧ ((-1) : Int32).toInt = 0) ∨ (¬ (0 ≤ pT_i ∧ pT_i ≤ 4 ∧ 1 ≤ pS_i ∧ pS_i ≤ 60 ∧ 0 ≤ pF_i ∧ pF_i ≤ 2000 ∧ 0 ≤ pC_i ∧ pC_i ≤ 50) ∧ ((-1) : Int32).toInt = -1) := by omega
            exact W.iret (v := (-1)) hx hb hr (fun t ht hW => ⟨⟨(-1), (-1), rfl, rfl, hf9_0, by rw [ht]; exact hP9, va_K.moved hW.alike hK, hD9⟩, hS.F ht⟩) hS.2.2 dX5_add_51
          ·
            have c_6 : ¬ ((60:Int) < pS_i) := zz_ltn (by decide) pS_h c_6
            refine lv_iload_n hx hb dX5_add_27 rfl (lv_at hl 3 rfl) ?_
            refine lv_if_lt (tgt := 50) hx hb dX5_add_28 (by decide) (fun c_7 => ?_) (fun c_7 => ?_)
            ·
              have c_7 : pF_i < (0:Int) := zz_lt pF_h (by decide) c_7
              refine lv_iconst (v := (-1)) hx hb dX5_add_50 (by decide) ?_
              have hP9 := hP.sub (ws' := []) [] rfl
              have hD9 := hD.sub (ws' := []) [] (by decide) rfl
              refine W.widen (k := 0) (n := 0) (Nat.le_of_ble_eq_true rfl) (Nat.le_of_ble_eq_true rfl) ?_
              have hu9 : ((-1) : Int32).toInt = (-1:Int) := (by decide)
              have hf9_0 : ((0 ≤ pT_i ∧ pT_i ≤ 4 ∧ 1 ≤ pS_i ∧ pS_i ≤ 60 ∧ 0 ≤ pF_i ∧ pF_i ≤ 2000 ∧ 0 ≤ pC_i ∧ pC_i ≤ 50) ∧ ((-1) : Int32).toInt = 0) ∨ (¬ (0 ≤ pT_i ∧ pT_i ≤ 4 ∧ 1 ≤ pS_i ∧ pS_i ≤ 60 ∧ 0 ≤ pF_i ∧ pF_i ≤ 2000 ∧ 0 ≤ pC_i ∧ pC_i ≤ 50) ∧ ((-1) : Int32).toInt = -1) := by omega
              exact W.iret (v := (-1)) hx hb hr (fun t ht hW => ⟨⟨(-1), (-1), rfl, rfl, hf9_0, by rw [ht]; exact hP9, va_K.moved hW.alike hK, hD9⟩, hS.F ht⟩) hS.2.2 dX5_add_51
            ·
              have c_7 : ¬ (pF_i < (0:Int)) := zz_ltn pF_h (by decide) c_7
              refine lv_iload_n hx hb dX5_add_31 rfl (lv_at hl 3 rfl) ?_
              refine lv_sipush (v := 2000) hx hb dX5_add_32 (by decide) ?_
              refine lv_icmp_gt (tgt := 50) hx hb dX5_add_35 (by decide) (fun c_8 => ?_) (fun c_8 => ?_)
              ·
                have c_8 : (2000:Int) < pF_i := zz_lt (by decide) pF_h c_8
                refine lv_iconst (v := (-1)) hx hb dX5_add_50 (by decide) ?_
                have hP9 := hP.sub (ws' := []) [] rfl
                have hD9 := hD.sub (ws' := []) [] (by decide) rfl
                refine W.widen (k := 0) (n := 0) (Nat.le_of_ble_eq_true rfl) (Nat.le_of_ble_eq_true rfl) ?_
                have hu9 : ((-1) : Int32).toInt = (-1:Int) := (by decide)
                have hf9_0 : ((0 ≤ pT_i ∧ pT_i ≤ 4 ∧ 1 ≤ pS_i ∧ pS_i ≤ 60 ∧ 0 ≤ pF_i ∧ pF_i ≤ 2000 ∧ 0 ≤ pC_i ∧ pC_i ≤ 50) ∧ ((-1) : Int32).toInt = 0) ∨ (¬ (0 ≤ pT_i ∧ pT_i ≤ 4 ∧ 1 ≤ pS_i ∧ pS_i ≤ 60 ∧ 0 ≤ pF_i ∧ pF_i ≤ 2000 ∧ 0 ≤ pC_i ∧ pC_i ≤ 50) ∧ ((-1) : Int32).toInt = -1) := by omega
                exact W.iret (v := (-1)) hx hb hr (fun t ht hW => ⟨⟨(-1), (-1), rfl, rfl, hf9_0, by rw [ht]; exact hP9, va_K.moved hW.alike hK, hD9⟩, hS.F ht⟩) hS.2.2 dX5_add_51
              ·
                have c_8 : ¬ ((2000:Int) < pF_i) := zz_ltn (by decide) pF_h c_8
                refine lv_iload hx hb dX5_add_38 (lv_at hl 4 rfl) ?_
                refine lv_if_lt (tgt := 50) hx hb dX5_add_40 (by decide) (fun c_9 => ?_) (fun c_9 => ?_)
                ·
                  have c_9 : pC_i < (0:Int) := zz_lt pC_h (by decide) c_9
                  refine lv_iconst (v := (-1)) hx hb dX5_add_50 (by decide) ?_
                  have hP9 := hP.sub (ws' := []) [] rfl
                  have hD9 := hD.sub (ws' := []) [] (by decide) rfl
                  refine W.widen (k := 0) (n := 0) (Nat.le_of_ble_eq_true rfl) (Nat.le_of_ble_eq_true rfl) ?_
                  have hu9 : ((-1) : Int32).toInt = (-1:Int) := (by decide)
                  have hf9_0 : ((0 ≤ pT_i ∧ pT_i ≤ 4 ∧ 1 ≤ pS_i ∧ pS_i ≤ 60 ∧ 0 ≤ pF_i ∧ pF_i ≤ 2000 ∧ 0 ≤ pC_i ∧ pC_i ≤ 50) ∧ ((-1) : Int32).toInt = 0) ∨ (¬ (0 ≤ pT_i ∧ pT_i ≤ 4 ∧ 1 ≤ pS_i ∧ pS_i ≤ 60 ∧ 0 ≤ pF_i ∧ pF_i ≤ 2000 ∧ 0 ≤ pC_i ∧ pC_i ≤ 50) ∧ ((-1) : Int32).toInt = -1) := by omega
                  exact W.iret (v := (-1)) hx hb hr (fun t ht hW => ⟨⟨(-1), (-1), rfl, rfl, hf9_0, by rw [ht]; exact hP9, va_K.moved hW.alike hK, hD9⟩, hS.F ht⟩) hS.2.2 dX5_add_51
                ·
                  have c_9 : ¬ (pC_i < (0:Int)) := zz_ltn pC_h (by decide) c_9
                  refine lv_iload hx hb dX5_add_43 (lv_at hl 4 rfl) ?_
                  refine lv_bipush (v := 50) hx hb dX5_add_45 (by decide) ?_
                  refine lv_icmp_le (tgt := 52) hx hb dX5_add_47 (by decide) (fun c_10 => ?_) (fun c_10 => ?_)
                  ·
                    have c_10 : pC_i ≤ (50:Int) := zz_le pC_h (by decide) c_10
                    refine lv_aload_n hx hb dX5_add_52 rfl (lv_at hl 0 rfl) ?_
                    refine va_get (D := (dC, dI)) (ci := 5) (v := .ref x_teams) (C := RX5) (T := TX5) (N := 5) hx hb hts hiX5 hown hK hP 0 rfl rfl 1 (by decide) hw3 (fun _ h9 => h9) rfl dX5_add_53 ?_
                    refine lv_aload_n hx hb dX5_add_56 rfl (lv_at hl 0 rfl) ?_
                    refine va_get (D := (dC, dI)) (ci := 5) (v := .int 0) (C := RX5) (T := TX5) (N := 5) hx hb hts hiX5 hown hK hP 0 rfl rfl 0 (by decide) hw0 (fun _ h9 => h9) rfl dX5_add_57 ?_
                    refine lv_iload_n hx hb dX5_add_60 rfl (lv_at hl 1 rfl) ?_
                    refine va_iast hx hb hK hP hD hS 1 0 rfl rfl (zz_inl rfl) dX5_add_61 (fun H locs hP hD hS => ?_)
                    have hP : va_P (dC, dI) vwCl [(h0, .inr (5, [.int 0, .ref x_teams, .ref x_steady, .ref x_full, .ref x_climb])), (x_teams, .inl (cI, 20, .inl (upd (fun _ => 0) (Int32.toNatClampNeg 0) pT))), (x_steady, .inl (cI, 20, .inl (fun _ => 0))), (x_full, .inl (cI, 20, .inl (fun _ => 0))), (x_climb, .inl (cI, 20, .inl (fun _ => 0)))] H := hP
                    have hD : va_D A [(h0, .inr (5, [.int 0, .ref x_teams, .ref x_steady, .ref x_full, .ref x_climb])), (x_teams, .inl (cI, 20, .inl (upd (fun _ => 0) (Int32.toNatClampNeg 0) pT))), (x_steady, .inl (cI, 20, .inl (fun _ => 0))), (x_full, .inl (cI, 20, .inl (fun _ => 0))), (x_climb, .inl (cI, 20, .inl (fun _ => 0)))] := hD
                    refine lv_aload_n hx hb dX5_add_62 rfl (lv_at hl 0 rfl) ?_
                    refine va_get (D := (dC, dI)) (ci := 5) (v := .ref x_steady) (C := RX5) (T := TX5) (N := 5) hx hb hts hiX5 hown hK hP 0 rfl rfl 2 (by decide) hw4 (fun _ h9 => h9) rfl dX5_add_63 ?_
                    refine lv_aload_n hx hb dX5_add_66 rfl (lv_at hl 0 rfl) ?_
                    refine va_get (D := (dC, dI)) (ci := 5) (v := .int 0) (C := RX5) (T := TX5) (N := 5) hx hb hts hiX5 hown hK hP 0 rfl rfl 0 (by decide) hw0 (fun _ h9 => h9) rfl dX5_add_67 ?_
                    refine lv_iload_n hx hb dX5_add_70 rfl (lv_at hl 2 rfl) ?_
                    refine va_iast hx hb hK hP hD hS 2 0 rfl rfl (zz_inl rfl) dX5_add_71 (fun H locs hP hD hS => ?_)
                    have hP : va_P (dC, dI) vwCl [(h0, .inr (5, [.int 0, .ref x_teams, .ref x_steady, .ref x_full, .ref x_climb])), (x_teams, .inl (cI, 20, .inl (upd (fun _ => 0) (Int32.toNatClampNeg 0) pT))), (x_steady, .inl (cI, 20, .inl (upd (fun _ => 0) (Int32.toNatClampNeg 0) pS))), (x_full, .inl (cI, 20, .inl (fun _ => 0))), (x_climb, .inl (cI, 20, .inl (fun _ => 0)))] H := hP
                    have hD : va_D A [(h0, .inr (5, [.int 0, .ref x_teams, .ref x_steady, .ref x_full, .ref x_climb])), (x_teams, .inl (cI, 20, .inl (upd (fun _ => 0) (Int32.toNatClampNeg 0) pT))), (x_steady, .inl (cI, 20, .inl (upd (fun _ => 0) (Int32.toNatClampNeg 0) pS))), (x_full, .inl (cI, 20, .inl (fun _ => 0))), (x_climb, .inl (cI, 20, .inl (fun _ => 0)))] := hD
                    refine lv_aload_n hx hb dX5_add_72 rfl (lv_at hl 0 rfl) ?_
                    refine va_get (D := (dC, dI)) (ci := 5) (v := .ref x_full) (C := RX5) (T := TX5) (N := 5) hx hb hts hiX5 hown hK hP 0 rfl rfl 3 (by decide) hw5 (fun _ h9 => h9) rfl dX5_add_73 ?_
                    refine lv_aload_n hx hb dX5_add_76 rfl (lv_at hl 0 rfl) ?_
                    refine va_get (D := (dC, dI)) (ci := 5) (v := .int 0) (C := RX5) (T := TX5) (N := 5) hx hb hts hiX5 hown hK hP 0 rfl rfl 0 (by decide) hw0 (fun _ h9 => h9) rfl dX5_add_77 ?_
                    refine lv_iload_n hx hb dX5_add_80 rfl (lv_at hl 3 rfl) ?_
                    refine va_iast hx hb hK hP hD hS 3 0 rfl rfl (zz_inl rfl) dX5_add_81 (fun H locs hP hD hS => ?_)
                    have hP : va_P (dC, dI) vwCl [(h0, .inr (5, [.int 0, .ref x_teams, .ref x_steady, .ref x_full, .ref x_climb])), (x_teams, .inl (cI, 20, .inl (upd (fun _ => 0) (Int32.toNatClampNeg 0) pT))), (x_steady, .inl (cI, 20, .inl (upd (fun _ => 0) (Int32.toNatClampNeg 0) pS))), (x_full, .inl (cI, 20, .inl (upd (fun _ => 0) (Int32.toNatClampNeg 0) pF))), (x_climb, .inl (cI, 20, .inl (fun _ => 0)))] H := hP
                    have hD : va_D A [(h0, .inr (5, [.int 0, .ref x_teams, .ref x_steady, .ref x_full, .ref x_climb])), (x_teams, .inl (cI, 20, .inl (upd (fun _ => 0) (Int32.toNatClampNeg 0) pT))), (x_steady, .inl (cI, 20, .inl (upd (fun _ => 0) (Int32.toNatClampNeg 0) pS))), (x_full, .inl (cI, 20, .inl (upd (fun _ => 0) (Int32.toNatClampNeg 0) pF))), (x_climb, .inl (cI, 20, .inl (fun _ => 0)))] := hD
                    refine lv_aload_n hx hb dX5_add_82 rfl (lv_at hl 0 rfl) ?_
                    refine va_get (D := (dC, dI)) (ci := 5) (v := .ref x_climb) (C := RX5) (T := TX5) (N := 5) hx hb hts hiX5 hown hK hP 0 rfl rfl 4 (by decide) hw6 (fun _ h9 => h9) rfl dX5_add_83 ?_
                    refine lv_aload_n hx hb dX5_add_86 rfl (lv_at hl 0 rfl) ?_
                    refine va_get (D := (dC, dI)) (ci := 5) (v := .int 0) (C := RX5) (T := TX5) (N := 5) hx hb hts hiX5 hown hK hP 0 rfl rfl 0 (by decide) hw0 (fun _ h9 => h9) rfl dX5_add_87 ?_
                    refine lv_iload hx hb dX5_add_90 (lv_at hl 4 rfl) ?_
                    refine va_iast hx hb hK hP hD hS 4 0 rfl rfl (zz_inl rfl) dX5_add_92 (fun H locs hP hD hS => ?_)
                    have hP : va_P (dC, dI) vwCl [(h0, .inr (5, [.int 0, .ref x_teams, .ref x_steady, .ref x_full, .ref x_climb])), (x_teams, .inl (cI, 20, .inl (upd (fun _ => 0) (Int32.toNatClampNeg 0) pT))), (x_steady, .inl (cI, 20, .inl (upd (fun _ => 0) (Int32.toNatClampNeg 0) pS))), (x_full, .inl (cI, 20, .inl (upd (fun _ => 0) (Int32.toNatClampNeg 0) pF))), (x_climb, .inl (cI, 20, .inl (upd (fun _ => 0) (Int32.toNatClampNeg 0) pC)))] H := hP
                    have hD : va_D A [(h0, .inr (5, [.int 0, .ref x_teams, .ref x_steady, .ref x_full, .ref x_climb])), (x_teams, .inl (cI, 20, .inl (upd (fun _ => 0) (Int32.toNatClampNeg 0) pT))), (x_steady, .inl (cI, 20, .inl (upd (fun _ => 0) (Int32.toNatClampNeg 0) pS))), (x_full, .inl (cI, 20, .inl (upd (fun _ => 0) (Int32.toNatClampNeg 0) pF))), (x_climb, .inl (cI, 20, .inl (upd (fun _ => 0) (Int32.toNatClampNeg 0) pC)))] := hD
                    refine lv_aload_n hx hb dX5_add_93 rfl (lv_at hl 0 rfl) ?_
                    refine lv_dup hx hb dX5_add_94 rfl ?_
                    refine va_get (D := (dC, dI)) (ci := 5) (v := .int 0) (C := RX5) (T := TX5) (N := 5) hx hb hts hiX5 hown hK hP 0 rfl rfl 0 (by decide) hw0 (fun _ h9 => h9) rfl dX5_add_95 ?_
                    refine lv_iconst (v := 1) hx hb dX5_add_98 (by decide) ?_
                    refine lv_iadd hx hb dX5_add_99 ?_
                    refine lv_topi (fun v_11 ev_11 => ?_)
                    obtain rfl : v_11 = 1 := ev_11.trans (by decide)
                    refine va_put (D := (dC, dI)) (ci := 5) (v := .int 1) (ty := .int) (C := RX5) (T := TX5) (N := 5) hx hb hts hiX5 tyX5 tyX5_ok nmX5 hown hK hP hD hS 0 rfl rfl 0 (by decide) hw0 (fun _ h9 => h9) rfl (by decide +kernel) rfl rfl (Nat.le_of_ble_eq_true rfl) dX5_add_100 (fun H locs hP hD hS => ?_)
                    have hP : va_P (dC, dI) vwCl [(h0, .inr (5, [.int 1, .ref x_teams, .ref x_steady, .ref x_full, .ref x_climb])), (x_teams, .inl (cI, 20, .inl (upd (fun _ => 0) (Int32.toNatClampNeg 0) pT))), (x_steady, .inl (cI, 20, .inl (upd (fun _ => 0) (Int32.toNatClampNeg 0) pS))), (x_full, .inl (cI, 20, .inl (upd (fun _ => 0) (Int32.toNatClampNeg 0) pF))), (x_climb, .inl (cI, 20, .inl (upd (fun _ => 0) (Int32.toNatClampNeg 0) pC)))] H := hP
                    have hD : va_D A [(h0, .inr (5, [.int 1, .ref x_teams, .ref x_steady, .ref x_full, .ref x_climb])), (x_teams, .inl (cI, 20, .inl (upd (fun _ => 0) (Int32.toNatClampNeg 0) pT))), (x_steady, .inl (cI, 20, .inl (upd (fun _ => 0) (Int32.toNatClampNeg 0) pS))), (x_full, .inl (cI, 20, .inl (upd (fun _ => 0) (Int32.toNatClampNeg 0) pF))), (x_climb, .inl (cI, 20, .inl (upd (fun _ => 0) (Int32.toNatClampNeg 0) pC)))] := hD
                    refine lv_aload_n hx hb dX5_add_103 rfl (lv_at hl 0 rfl) ?_
                    refine va_get (D := (dC, dI)) (ci := 5) (v := .int 1) (C := RX5) (T := TX5) (N := 5) hx hb hts hiX5 hown hK hP 0 rfl rfl 0 (by decide) hw0 (fun _ h9 => h9) rfl dX5_add_104 ?_
                    refine lv_iconst (v := 1) hx hb dX5_add_107 (by decide) ?_
                    refine lv_isub hx hb dX5_add_108 ?_
                    refine lv_topi (fun v_12 ev_12 => ?_)
                    obtain rfl : v_12 = 0 := ev_12.trans (by decide)
                    have hP9 := hP.sub (ws' := []) [] rfl
                    have hD9 := hD.sub (ws' := []) [] (by decide) rfl
                    refine W.widen (k := 0) (n := 0) (Nat.le_of_ble_eq_true rfl) (Nat.le_of_ble_eq_true rfl) ?_
                    have hu9 : (0 : Int32).toInt = (0:Int) := (by decide)
                    have hf9_0 : ((0 ≤ pT_i ∧ pT_i ≤ 4 ∧ 1 ≤ pS_i ∧ pS_i ≤ 60 ∧ 0 ≤ pF_i ∧ pF_i ≤ 2000 ∧ 0 ≤ pC_i ∧ pC_i ≤ 50) ∧ (0 : Int32).toInt = 0) ∨ (¬ (0 ≤ pT_i ∧ pT_i ≤ 4 ∧ 1 ≤ pS_i ∧ pS_i ≤ 60 ∧ 0 ≤ pF_i ∧ pF_i ≤ 2000 ∧ 0 ≤ pC_i ∧ pC_i ≤ 50) ∧ (0 : Int32).toInt = -1) := by omega
                    exact W.iret (v := 0) hx hb hr (fun t ht hW => ⟨⟨0, 0, rfl, rfl, hf9_0, by rw [ht]; exact hP9, va_K.moved hW.alike hK, hD9⟩, hS.F ht⟩) hS.2.2 dX5_add_109
                  ·
                    have c_10 : ¬ (pC_i ≤ (50:Int)) := zz_len pC_h (by decide) c_10
                    refine lv_iconst (v := (-1)) hx hb dX5_add_50 (by decide) ?_
                    have hP9 := hP.sub (ws' := []) [] rfl
                    have hD9 := hD.sub (ws' := []) [] (by decide) rfl
                    refine W.widen (k := 0) (n := 0) (Nat.le_of_ble_eq_true rfl) (Nat.le_of_ble_eq_true rfl) ?_
                    have hu9 : ((-1) : Int32).toInt = (-1:Int) := (by decide)
                    have hf9_0 : ((0 ≤ pT_i ∧ pT_i ≤ 4 ∧ 1 ≤ pS_i ∧ pS_i ≤ 60 ∧ 0 ≤ pF_i ∧ pF_i ≤ 2000 ∧ 0 ≤ pC_i ∧ pC_i ≤ 50) ∧ ((-1) : Int32).toInt = 0) ∨ (¬ (0 ≤ pT_i ∧ pT_i ≤ 4 ∧ 1 ≤ pS_i ∧ pS_i ≤ 60 ∧ 0 ≤ pF_i ∧ pF_i ≤ 2000 ∧ 0 ≤ pC_i ∧ pC_i ≤ 50) ∧ ((-1) : Int32).toInt = -1) := by omega
                    exact W.iret (v := (-1)) hx hb hr (fun t ht hW => ⟨⟨(-1), (-1), rfl, rfl, hf9_0, by rw [ht]; exact hP9, va_K.moved hW.alike hK, hD9⟩, hS.F ht⟩) hS.2.2 dX5_add_51
    ·
      refine lv_if_eq (tgt := 50) hx hb dX5_add_13 (by decide) (fun c_13 => ?_) (fun c_13 => ?_)
      ·
        refine lv_iconst (v := (-1)) hx hb dX5_add_50 (by decide) ?_
        have hP9 := hP.sub (ws' := []) [] rfl
        have hD9 := hD.sub (ws' := []) [] (by decide) rfl
        refine W.widen (k := 0) (n := 0) (Nat.le_of_ble_eq_true rfl) (Nat.le_of_ble_eq_true rfl) ?_
        have hu9 : ((-1) : Int32).toInt = (-1:Int) := (by decide)
        have hf9_0 : ((0 ≤ pT_i ∧ pT_i ≤ 4 ∧ 1 ≤ pS_i ∧ pS_i ≤ 60 ∧ 0 ≤ pF_i ∧ pF_i ≤ 2000 ∧ 0 ≤ pC_i ∧ pC_i ≤ 50) ∧ ((-1) : Int32).toInt = 0) ∨ (¬ (0 ≤ pT_i ∧ pT_i ≤ 4 ∧ 1 ≤ pS_i ∧ pS_i ≤ 60 ∧ 0 ≤ pF_i ∧ pF_i ≤ 2000 ∧ 0 ≤ pC_i ∧ pC_i ≤ 50) ∧ ((-1) : Int32).toInt = -1) := by omega
        exact W.iret (v := (-1)) hx hb hr (fun t ht hW => ⟨⟨(-1), (-1), rfl, rfl, hf9_0, by rw [ht]; exact hP9, va_K.moved hW.alike hK, hD9⟩, hS.F ht⟩) hS.2.2 dX5_add_51
      ·
        exact absurd c_13 (by decide)

set_option maxHeartbeats 4000000 in
set_option maxRecDepth 100000 in
theorem c_X9_rider (l : Launch) (dC : Nat → ClassId) (dI : Nat → Nat → Nat) (cI cZ : ClassId) (sz : Nat) (h0 : Nat) (x_riders : Nat) (x_road : Nat) (x_tape : Nat) (x_book : Nat) (x_reader : Nat) (x_latest : Nat) (x_log : Nat) (x_trial : Nat) (x_stages : Nat) (x_ri_teams : Nat) (x_ri_steady : Nat) (x_ri_full : Nat) (x_ri_climb : Nat) (x_sg_totals : Nat) (x_sg_points : Nat) (x_sg_out : Nat) (pT : Int32) (pT_i : Int) (pT_h : pT.toInt = pT_i) (pS : Int32) (pS_i : Int) (pS_h : pS.toInt = pS_i) (pF : Int32) (pF_i : Int) (pF_h : pF.toInt = pF_i) (pC : Int32) (pC_i : Int) (pC_h : pC.toInt = pC_i) : Met l yX9_rider (Cond.code yX9_rider cX9_rider 5 (some .int) :: lw_good) ({ frames := 2, cells := 0, slots := 0, locals := 44 }) (va_Pc [.ref h0, .int pT, .int pS, .int pF, .int pC] (fun U => U.heap.size = sz ∧ va_P (dC, dI) vwCl [(h0, .inr (9, [.ref x_riders, .ref x_road, .ref x_tape, .ref x_book, .ref x_reader, .ref x_latest, .ref x_log, .ref x_trial, .ref x_stages, .int 0, .int 0, .int 0])), (x_riders, .inr (5, [.int 0, .ref x_ri_teams, .ref x_ri_steady, .ref x_ri_full, .ref x_ri_climb])), (x_ri_teams, .inl (cI, 20, .inl (fun _ => 0))), (x_ri_steady, .inl (cI, 20, .inl (fun _ => 0))), (x_ri_full, .inl (cI, 20, .inl (fun _ => 0))), (x_ri_climb, .inl (cI, 20, .inl (fun _ => 0))), (x_stages, .inr (7, [.int 0, .int 20, .ref x_sg_totals, .ref x_sg_points, .ref x_sg_out]))] U.heap ∧ va_K (dC, dI) vwCl [(cI, .int), (cZ, .boolean)] U ∧ va_D (fun _ => True) [(h0, .inr (9, [.ref x_riders, .ref x_road, .ref x_tape, .ref x_book, .ref x_reader, .ref x_latest, .ref x_log, .ref x_trial, .ref x_stages, .int 0, .int 0, .int 0])), (x_riders, .inr (5, [.int 0, .ref x_ri_teams, .ref x_ri_steady, .ref x_ri_full, .ref x_ri_climb])), (x_ri_teams, .inl (cI, 20, .inl (fun _ => 0))), (x_ri_steady, .inl (cI, 20, .inl (fun _ => 0))), (x_ri_full, .inl (cI, 20, .inl (fun _ => 0))), (x_ri_climb, .inl (cI, 20, .inl (fun _ => 0))), (x_stages, .inr (7, [.int 0, .int 20, .ref x_sg_totals, .ref x_sg_points, .ref x_sg_out]))] ∧ va_Nw (.methodLinkNest RX5 28 yX9_isTeam "BunchRace") U)) (va_Qi (fun (r u : Int32) => r = u) (fun u t => (((0 ≤ pT_i ∧ pT_i ≤ 4 ∧ 1 ≤ pS_i ∧ pS_i ≤ 60 ∧ 0 ≤ pF_i ∧ pF_i ≤ 2000 ∧ 0 ≤ pC_i ∧ pC_i ≤ 50) ∧ u.toInt = 0) ∨ (¬ (0 ≤ pT_i ∧ pT_i ≤ 4 ∧ 1 ≤ pS_i ∧ pS_i ≤ 60 ∧ 0 ≤ pF_i ∧ pF_i ≤ 2000 ∧ 0 ≤ pC_i ∧ pC_i ≤ 50) ∧ u.toInt = -1)) ∧ va_P (dC, dI) vwCl [] t.heap ∧ va_K (dC, dI) vwCl [(cI, .int), (cZ, .boolean)] t ∧ va_D (va_A [(h0, .inr (9, [.ref x_riders, .ref x_road, .ref x_tape, .ref x_book, .ref x_reader, .ref x_latest, .ref x_log, .ref x_trial, .ref x_stages, .int 0, .int 0, .int 0])), (x_riders, .inr (5, [.int 0, .ref x_ri_teams, .ref x_ri_steady, .ref x_ri_full, .ref x_ri_climb])), (x_ri_teams, .inl (cI, 20, .inl (fun _ => 0))), (x_ri_steady, .inl (cI, 20, .inl (fun _ => 0))), (x_ri_full, .inl (cI, 20, .inl (fun _ => 0))), (x_ri_climb, .inl (cI, 20, .inl (fun _ => 0))), (x_stages, .inr (7, [.int 0, .int 20, .ref x_sg_totals, .ref x_sg_points, .ref x_sg_out]))] sz) []) (va_A [(h0, .inr (9, [.ref x_riders, .ref x_road, .ref x_tape, .ref x_book, .ref x_reader, .ref x_latest, .ref x_log, .ref x_trial, .ref x_stages, .int 0, .int 0, .int 0])), (x_riders, .inr (5, [.int 0, .ref x_ri_teams, .ref x_ri_steady, .ref x_ri_full, .ref x_ri_climb])), (x_ri_teams, .inl (cI, 20, .inl (fun _ => 0))), (x_ri_steady, .inl (cI, 20, .inl (fun _ => 0))), (x_ri_full, .inl (cI, 20, .inl (fun _ => 0))), (x_ri_climb, .inl (cI, 20, .inl (fun _ => 0))), (x_stages, .inr (7, [.int 0, .int 20, .ref x_sg_totals, .ref x_sg_points, .ref x_sg_out]))] sz)) 0 0 (va_A [(h0, .inr (9, [.ref x_riders, .ref x_road, .ref x_tape, .ref x_book, .ref x_reader, .ref x_latest, .ref x_log, .ref x_trial, .ref x_stages, .int 0, .int 0, .int 0])), (x_riders, .inr (5, [.int 0, .ref x_ri_teams, .ref x_ri_steady, .ref x_ri_full, .ref x_ri_climb])), (x_ri_teams, .inl (cI, 20, .inl (fun _ => 0))), (x_ri_steady, .inl (cI, 20, .inl (fun _ => 0))), (x_ri_full, .inl (cI, 20, .inl (fun _ => 0))), (x_ri_climb, .inl (cI, 20, .inl (fun _ => 0))), (x_stages, .inr (7, [.int 0, .int 20, .ref x_sg_totals, .ref x_sg_points, .ref x_sg_out]))] sz) := by
  refine Met.ofW (cc := cX9_rider) (maxL := 5) (ret := (some .int)) (by decide) rfl ?_
  intro p e s m args below meth c s₁ B hml hv
  obtain ⟨rfl, hsz, hP, hK, hD0, hnX5_28⟩ := hv
  have hx := B.exec
  have hb := B.bytes
  have hr := B.returns
  have hts := atoms_spec (ws := Cond.code yX9_rider cX9_rider 5 (some .int) :: lw_good) B.pre
  have hown : s.vm.findClass RX9 = some m.cls := findClass_of_methodNamed B.named
  have hlocks := B.notSynchronized
  have hiX7 : ∀ w ∈ wsX70, w ∈ (Cond.code yX9_rider cX9_rider 5 (some .int) :: lw_good) := fun w h => List.mem_cons_of_mem _ (zi_X7 w h)
  have hiX9 : ∀ w ∈ wsX90, w ∈ (Cond.code yX9_rider cX9_rider 5 (some .int) :: lw_good) := fun w h => List.mem_cons_of_mem _ (zi_X9 w h)
  have hw0 := hts (.fieldLink RX9 64 "BunchRace" "stages" "LBunchRace$Stages;") (List.mem_cons_of_mem _ zw_342)
  have hw1 := hts (.fieldLink RX9 79 "BunchRace$Stages" "number" "I") (List.mem_cons_of_mem _ zw_314)
  have hw2 := hts (.fieldLink RX9 12 "BunchRace" "riders" "LBunchRace$Riders;") (List.mem_cons_of_mem _ zw_334)
  have hw3 := hts (.initialized RX5) (List.mem_cons_of_mem _ zw_49)
  have hw4 := hts (.methodLink RX9 82 yX5_add) (List.mem_cons_of_mem _ zw_375)
  have hw5 := hts (.instanceMethod yX5_add) (List.mem_cons_of_mem _ zw_376)
  have hw6 := hts (.selects RX5 yX5_add yX5_add) (List.mem_cons_of_mem _ zw_377)
  subst hsz
  have hD := hD0.self (sz := s.heap.size)
  generalize hAe : va_A [(h0, .inr (9, [.ref x_riders, .ref x_road, .ref x_tape, .ref x_book, .ref x_reader, .ref x_latest, .ref x_log, .ref x_trial, .ref x_stages, .int 0, .int 0, .int 0])), (x_riders, .inr (5, [.int 0, .ref x_ri_teams, .ref x_ri_steady, .ref x_ri_full, .ref x_ri_climb])), (x_ri_teams, .inl (cI, 20, .inl (fun _ => 0))), (x_ri_steady, .inl (cI, 20, .inl (fun _ => 0))), (x_ri_full, .inl (cI, 20, .inl (fun _ => 0))), (x_ri_climb, .inl (cI, 20, .inl (fun _ => 0))), (x_stages, .inr (7, [.int 0, .int 20, .ref x_sg_totals, .ref x_sg_points, .ref x_sg_out]))] s.heap.size = A at hD ⊢
  have hA : ∀ q : Nat, s.heap.size ≤ q → A q := fun q h => by rw [← hAe]; exact Or.inr h
  have hS : va_S A s.heap s.heap [] := va_S.rf
  have hP : va_P (dC, dI) vwCl [(h0, .inr (9, [.ref x_riders, .ref x_road, .ref x_tape, .ref x_book, .ref x_reader, .ref x_latest, .ref x_log, .ref x_trial, .ref x_stages, .int 0, .int 0, .int 0])), (x_riders, .inr (5, [.int 0, .ref x_ri_teams, .ref x_ri_steady, .ref x_ri_full, .ref x_ri_climb])), (x_ri_teams, .inl (cI, 20, .inl (fun _ => 0))), (x_ri_steady, .inl (cI, 20, .inl (fun _ => 0))), (x_ri_full, .inl (cI, 20, .inl (fun _ => 0))), (x_ri_climb, .inl (cI, 20, .inl (fun _ => 0))), (x_stages, .inr (7, [.int 0, .int 20, .ref x_sg_totals, .ref x_sg_points, .ref x_sg_out]))] s.heap := hP
  have hl := lv_entry ([.ref h0, .int pT, .int pS, .int pF, .int pC]) (n := 5) (Nat.le_of_ble_eq_true rfl)
  rw [lg_entry_eq]
  generalize (lg_sl ([.ref h0, .int pT, .int pS, .int pF, .int pC]) ++ List.replicate (5 - (lg_sl ([.ref h0, .int pT, .int pS, .int pF, .int pC])).length) Slot.unset).toArray = ls at hl ⊢
  have hl : lv_has ls 5 [(0, .ref h0), (1, .int pT), (2, .int pS), (3, .int pF), (4, .int pC)] := hl
  refine lv_aload_n hx hb dX9_rider_0 rfl (lv_at hl 0 rfl) ?_
  refine va_get (D := (dC, dI)) (ci := 9) (v := .ref x_stages) (C := RX9) (T := TX9) (N := 12) hx hb hts hiX9 hown hK hP 0 rfl rfl 8 (by decide) hw0 (fun _ h9 => h9) rfl dX9_rider_1 ?_
  refine va_get (D := (dC, dI)) (ci := 7) (v := .int 0) (C := RX7) (T := TX7) (N := 5) hx hb hts hiX7 hown hK hP 6 rfl rfl 0 (by decide) hw1 (fun _ h9 => h9) rfl dX9_rider_4 ?_
  refine lv_if_le (tgt := 12) hx hb dX9_rider_7 (by decide) (fun c_1 => ?_) (fun c_1 => ?_)
  ·
    refine lv_aload_n hx hb dX9_rider_12 rfl (lv_at hl 0 rfl) ?_
    refine va_get (D := (dC, dI)) (ci := 9) (v := .ref x_riders) (C := RX9) (T := TX9) (N := 12) hx hb hts hiX9 hown hK hP 0 rfl rfl 0 (by decide) hw2 (fun _ h9 => h9) rfl dX9_rider_13 ?_
    refine lv_iload_n hx hb dX9_rider_16 rfl (lv_at hl 1 rfl) ?_
    refine lv_iload_n hx hb dX9_rider_17 rfl (lv_at hl 2 rfl) ?_
    refine lv_iload_n hx hb dX9_rider_18 rfl (lv_at hl 3 rfl) ?_
    refine lv_iload hx hb dX9_rider_19 (lv_at hl 4 rfl) ?_
    have hPc := hP.sub (ws' := [(x_riders, .inr (5, [.int 0, .ref x_ri_teams, .ref x_ri_steady, .ref x_ri_full, .ref x_ri_climb])), (x_ri_teams, .inl (cI, 20, .inl (fun _ => 0))), (x_ri_steady, .inl (cI, 20, .inl (fun _ => 0))), (x_ri_full, .inl (cI, 20, .inl (fun _ => 0))), (x_ri_climb, .inl (cI, 20, .inl (fun _ => 0)))]) [1, 2, 3, 4, 5] rfl
    have hDc := hD.sub (ws' := [(x_riders, .inr (5, [.int 0, .ref x_ri_teams, .ref x_ri_steady, .ref x_ri_full, .ref x_ri_climb])), (x_ri_teams, .inl (cI, 20, .inl (fun _ => 0))), (x_ri_steady, .inl (cI, 20, .inl (fun _ => 0))), (x_ri_full, .inl (cI, 20, .inl (fun _ => 0))), (x_ri_climb, .inl (cI, 20, .inl (fun _ => 0)))]) [1, 2, 3, 4, 5] (by decide) rfl
    have hFc := va_free (wc := [(x_riders, .inr (5, [.int 0, .ref x_ri_teams, .ref x_ri_steady, .ref x_ri_full, .ref x_ri_climb])), (x_ri_teams, .inl (cI, 20, .inl (fun _ => 0))), (x_ri_steady, .inl (cI, 20, .inl (fun _ => 0))), (x_ri_full, .inl (cI, 20, .inl (fun _ => 0))), (x_ri_climb, .inl (cI, 20, .inl (fun _ => 0)))]) hD hS hA [1, 2, 3, 4, 5] rfl
    refine va_calli (va_runV (As := [.int pT, .int pS, .int pF, .int pC]) (rest := []) ⟨hx, hb, hml, hown, hts⟩ (c_X5_add l dC dI cI cZ (s.heap).size x_riders x_ri_teams x_ri_steady x_ri_full x_ri_climb pT pT_i pT_h pS pS_i pS_h pF pF_i pF_h pC pC_i pC_h) ⟨callB_of 4 hts (zz_good zw_378) rfl rfl rfl hw3 hw4 (by decide +kernel) ⟨Nat.le_of_ble_eq_true rfl, Nat.le_of_ble_eq_true rfl⟩, hw5, hw6⟩ ⟨fun a U g mk q => by obtain ⟨q0, q1, qP, qK, qD, qN0⟩ := q; exact ⟨q0, q1, qP, va_K.moved (u := U) (U := U.calling g mk a) (Vm.Alike.refl U.vm) qK, qD, va_Nw.same rfl rfl qN0⟩, va_recv hK hPc (ci := 5) (q0 := 0) rfl rfl, fun U hU hW => ⟨rfl, by rw [hU], by rw [hU]; exact hPc, va_K.moved hW.alike hK, hDc.weaken (fun _ _ _ _ => trivial), va_Nw.warmM hW hnX5_28⟩⟩ rfl rfl hl.1 rfl (lv_room (Nat.le_of_ble_eq_true rfl)) dX9_rider_21 ⟨Nat.le_of_ble_eq_true rfl, Nat.le_of_ble_eq_true rfl⟩) hS (fun q _ h => hFc q h) hFc (fun r_2 u t H1 locs ht hvm hpost hB hz1 hk1 hS => ?_)
    subst hpost
    obtain ⟨hf_3, hP1, hK1, hD1⟩ := hB
    rw [ht] at hP1
    obtain ⟨hP, hD⟩ := va_join (wr := [(h0, .inr (9, [.ref x_riders, .ref x_road, .ref x_tape, .ref x_book, .ref x_reader, .ref x_latest, .ref x_log, .ref x_trial, .ref x_stages, .int 0, .int 0, .int 0])), (x_stages, .inr (7, [.int 0, .int 20, .ref x_sg_totals, .ref x_sg_points, .ref x_sg_out]))]) (w1 := []) hP hD [1, 2, 3, 4, 5] [0, 6] rfl rfl (by decide) (by decide) hk1 hFc hP1 hD1
    generalize H1 = H at hP hS ⊢
    have hP : va_P (dC, dI) vwCl [(h0, .inr (9, [.ref x_riders, .ref x_road, .ref x_tape, .ref x_book, .ref x_reader, .ref x_latest, .ref x_log, .ref x_trial, .ref x_stages, .int 0, .int 0, .int 0])), (x_stages, .inr (7, [.int 0, .int 20, .ref x_sg_totals, .ref x_sg_points, .ref x_sg_out]))] H := hP
    have hD : va_D A [(h0, .inr (9, [.ref x_riders, .ref x_road, .ref x_tape, .ref x_book, .ref x_reader, .ref x_latest, .ref x_log, .ref x_trial, .ref x_stages, .int 0, .int 0, .int 0])), (x_stages, .inr (7, [.int 0, .int 20, .ref x_sg_totals, .ref x_sg_points, .ref x_sg_out]))] := hD
    have hf_3 : ((0 ≤ pT_i ∧ pT_i ≤ 4 ∧ 1 ≤ pS_i ∧ pS_i ≤ 60 ∧ 0 ≤ pF_i ∧ pF_i ≤ 2000 ∧ 0 ≤ pC_i ∧ pC_i ≤ 50) ∧ r_2.toInt = 0) ∨ (¬ (0 ≤ pT_i ∧ pT_i ≤ 4 ∧ 1 ≤ pS_i ∧ pS_i ≤ 60 ∧ 0 ≤ pF_i ∧ pF_i ≤ 2000 ∧ 0 ≤ pC_i ∧ pC_i ≤ 50) ∧ r_2.toInt = -1) := hf_3
    have hP9 := hP.sub (ws' := []) [] rfl
    have hD9 := hD.sub (ws' := []) [] (by decide) rfl
    refine W.widen (k := 0) (n := 0) (Nat.le_of_ble_eq_true rfl) (Nat.le_of_ble_eq_true rfl) ?_
    have hu9 : (r_2 : Int32).toInt = (r_2).toInt := rfl
    have hf9_0 : ((0 ≤ pT_i ∧ pT_i ≤ 4 ∧ 1 ≤ pS_i ∧ pS_i ≤ 60 ∧ 0 ≤ pF_i ∧ pF_i ≤ 2000 ∧ 0 ≤ pC_i ∧ pC_i ≤ 50) ∧ r_2.toInt = 0) ∨ (¬ (0 ≤ pT_i ∧ pT_i ≤ 4 ∧ 1 ≤ pS_i ∧ pS_i ≤ 60 ∧ 0 ≤ pF_i ∧ pF_i ≤ 2000 ∧ 0 ≤ pC_i ∧ pC_i ≤ 50) ∧ r_2.toInt = -1) := by omega
    exact W.iret (v := r_2) hx hb hr (fun t ht hW => ⟨⟨r_2, r_2, rfl, rfl, hf9_0, by rw [ht]; exact hP9, va_K.moved hW.alike hK, hD9⟩, hS.F ht⟩) hS.2.2 dX9_rider_24
  ·
    exact absurd c_1 (by decide)

set_option maxHeartbeats 4000000 in
set_option maxRecDepth 100000 in
theorem c_X6_renew (l : Launch) (dC : Nat → ClassId) (dI : Nat → Nat → Nat) (cI cZ : ClassId) (sz : Nat) (h0 : Nat) (x_rises : Nat) (x_winds : Nat) (x_primeMetres : Nat) (pN : Int32) (pN_i : Int) (pN_h : pN.toInt = pN_i) : Met l yX6_renew (Cond.code yX6_renew cX6_renew 3 (some .boolean) :: lw_good) ({ frames := 0, cells := 0, slots := 0, locals := 0 }) (va_Pc [.ref h0, .int pN] (fun U => U.heap.size = sz ∧ va_P (dC, dI) vwCl [(h0, .inr (6, [.int 1, .ref x_rises, .ref x_winds, .int 0, .ref x_primeMetres, .int 0, .int 0])), (x_rises, .inl (cI, 30, .inl (fun _ => 0))), (x_winds, .inl (cI, 30, .inl (fun _ => 0))), (x_primeMetres, .inl (cI, 5, .inl (fun _ => 0)))] U.heap ∧ va_K (dC, dI) vwCl [(cI, .int), (cZ, .boolean)] U ∧ va_D (fun _ => True) [(h0, .inr (6, [.int 1, .ref x_rises, .ref x_winds, .int 0, .ref x_primeMetres, .int 0, .int 0])), (x_rises, .inl (cI, 30, .inl (fun _ => 0))), (x_winds, .inl (cI, 30, .inl (fun _ => 0))), (x_primeMetres, .inl (cI, 5, .inl (fun _ => 0)))])) (va_Qi (fun (r u : Int32) => r = u) (fun u t => ((u = 1 ∧ (1 ≤ pN_i ∧ pN_i ≤ 30)) ∨ (u = 0 ∧ ¬ (1 ≤ pN_i ∧ pN_i ≤ 30))) ∧ va_P (dC, dI) vwCl [] t.heap ∧ va_K (dC, dI) vwCl [(cI, .int), (cZ, .boolean)] t ∧ va_D (va_A [(h0, .inr (6, [.int 1, .ref x_rises, .ref x_winds, .int 0, .ref x_primeMetres, .int 0, .int 0])), (x_rises, .inl (cI, 30, .inl (fun _ => 0))), (x_winds, .inl (cI, 30, .inl (fun _ => 0))), (x_primeMetres, .inl (cI, 5, .inl (fun _ => 0)))] sz) []) (va_A [(h0, .inr (6, [.int 1, .ref x_rises, .ref x_winds, .int 0, .ref x_primeMetres, .int 0, .int 0])), (x_rises, .inl (cI, 30, .inl (fun _ => 0))), (x_winds, .inl (cI, 30, .inl (fun _ => 0))), (x_primeMetres, .inl (cI, 5, .inl (fun _ => 0)))] sz)) 0 0 (va_A [(h0, .inr (6, [.int 1, .ref x_rises, .ref x_winds, .int 0, .ref x_primeMetres, .int 0, .int 0])), (x_rises, .inl (cI, 30, .inl (fun _ => 0))), (x_winds, .inl (cI, 30, .inl (fun _ => 0))), (x_primeMetres, .inl (cI, 5, .inl (fun _ => 0)))] sz) := by
  refine Met.ofW (cc := cX6_renew) (maxL := 3) (ret := (some .boolean)) (by decide) rfl ?_
  intro p e s m args below meth c s₁ B hml hv
  obtain ⟨rfl, hsz, hP, hK, hD0⟩ := hv
  have hx := B.exec
  have hb := B.bytes
  have hr := B.returns
  have hts := atoms_spec (ws := Cond.code yX6_renew cX6_renew 3 (some .boolean) :: lw_good) B.pre
  have hown : s.vm.findClass RX6 = some m.cls := findClass_of_methodNamed B.named
  have hlocks := B.notSynchronized
  have hiX6 : ∀ w ∈ wsX60, w ∈ (Cond.code yX6_renew cX6_renew 3 (some .boolean) :: lw_good) := fun w h => List.mem_cons_of_mem _ (zi_X6 w h)
  have hw0 := hts (.fieldLink RX6 9 "BunchRace$Road" "kilometres" "I") (List.mem_cons_of_mem _ zw_105)
  have hw1 := hts (.fieldLink RX6 22 "BunchRace$Road" "primes" "I") (List.mem_cons_of_mem _ zw_111)
  have hw2 := hts (.fieldLink RX6 28 "BunchRace$Road" "crashMetre" "I") (List.mem_cons_of_mem _ zw_116)
  have hw3 := hts (.fieldLink RX6 31 "BunchRace$Road" "crashPart" "I") (List.mem_cons_of_mem _ zw_118)
  have hw4 := hts (.fieldLink RX6 15 "BunchRace$Road" "rises" "[I") (List.mem_cons_of_mem _ zw_107)
  have hw5 := hts (.fieldLink RX6 19 "BunchRace$Road" "winds" "[I") (List.mem_cons_of_mem _ zw_109)
  subst hsz
  have hD := hD0.self (sz := s.heap.size)
  generalize hAe : va_A [(h0, .inr (6, [.int 1, .ref x_rises, .ref x_winds, .int 0, .ref x_primeMetres, .int 0, .int 0])), (x_rises, .inl (cI, 30, .inl (fun _ => 0))), (x_winds, .inl (cI, 30, .inl (fun _ => 0))), (x_primeMetres, .inl (cI, 5, .inl (fun _ => 0)))] s.heap.size = A at hD ⊢
  have hA : ∀ q : Nat, s.heap.size ≤ q → A q := fun q h => by rw [← hAe]; exact Or.inr h
  have hS : va_S A s.heap s.heap [] := va_S.rf
  have hP : va_P (dC, dI) vwCl [(h0, .inr (6, [.int 1, .ref x_rises, .ref x_winds, .int 0, .ref x_primeMetres, .int 0, .int 0])), (x_rises, .inl (cI, 30, .inl (fun _ => 0))), (x_winds, .inl (cI, 30, .inl (fun _ => 0))), (x_primeMetres, .inl (cI, 5, .inl (fun _ => 0)))] s.heap := hP
  have hl := lv_entry ([.ref h0, .int pN]) (n := 3) (Nat.le_of_ble_eq_true rfl)
  rw [lg_entry_eq]
  generalize (lg_sl ([.ref h0, .int pN]) ++ List.replicate (3 - (lg_sl ([.ref h0, .int pN])).length) Slot.unset).toArray = ls at hl ⊢
  have hl : lv_has ls 3 [(0, .ref h0), (1, .int pN)] := hl
  refine lv_iload_n hx hb dX6_renew_0 rfl (lv_at hl 1 rfl) ?_
  refine lv_iconst (v := 1) hx hb dX6_renew_1 (by decide) ?_
  refine lv_icmp_lt (tgt := 11) hx hb dX6_renew_2 (by decide) (fun c_1 => ?_) (fun c_1 => ?_)
  ·
    have c_1 : pN_i < (1:Int) := zz_lt pN_h (by decide) c_1
    refine lv_iconst (v := 0) hx hb dX6_renew_11 (by decide) ?_
    have hP9 := hP.sub (ws' := []) [] rfl
    have hD9 := hD.sub (ws' := []) [] (by decide) rfl
    refine W.widen (k := 0) (n := 0) (Nat.le_of_ble_eq_true rfl) (Nat.le_of_ble_eq_true rfl) ?_
    have hu9 : (0 : Int32).toInt = (0:Int) := (by decide)
    have hf9_0 : ((0 : Int32) = 1 ∧ (1 ≤ pN_i ∧ pN_i ≤ 30)) ∨ ((0 : Int32) = 0 ∧ ¬ (1 ≤ pN_i ∧ pN_i ≤ 30)) := Or.inr ⟨rfl, by omega⟩
    exact W.zret (v := 0) hx hb hr rfl (fun t ht hW => ⟨⟨0, 0, rfl, rfl, hf9_0, by rw [ht]; exact hP9, va_K.moved hW.alike hK, hD9⟩, hS.F ht⟩) hS.2.2 dX6_renew_12
  ·
    have c_1 : ¬ (pN_i < (1:Int)) := zz_ltn pN_h (by decide) c_1
    refine lv_iload_n hx hb dX6_renew_5 rfl (lv_at hl 1 rfl) ?_
    refine lv_bipush (v := 30) hx hb dX6_renew_6 (by decide) ?_
    refine lv_icmp_le (tgt := 13) hx hb dX6_renew_8 (by decide) (fun c_2 => ?_) (fun c_2 => ?_)
    ·
      have c_2 : pN_i ≤ (30:Int) := zz_le pN_h (by decide) c_2
      refine lv_aload_n hx hb dX6_renew_13 rfl (lv_at hl 0 rfl) ?_
      refine lv_iload_n hx hb dX6_renew_14 rfl (lv_at hl 1 rfl) ?_
      refine va_put (D := (dC, dI)) (ci := 6) (v := .int pN) (ty := .int) (C := RX6) (T := TX6) (N := 7) hx hb hts hiX6 tyX6 tyX6_ok nmX6 hown hK hP hD hS 0 rfl rfl 0 (by decide) hw0 (fun _ h9 => h9) rfl (by decide +kernel) rfl rfl (Nat.le_of_ble_eq_true rfl) dX6_renew_15 (fun H locs hP hD hS => ?_)
      have hP : va_P (dC, dI) vwCl [(h0, .inr (6, [.int pN, .ref x_rises, .ref x_winds, .int 0, .ref x_primeMetres, .int 0, .int 0])), (x_rises, .inl (cI, 30, .inl (fun _ => 0))), (x_winds, .inl (cI, 30, .inl (fun _ => 0))), (x_primeMetres, .inl (cI, 5, .inl (fun _ => 0)))] H := hP
      have hD : va_D A [(h0, .inr (6, [.int pN, .ref x_rises, .ref x_winds, .int 0, .ref x_primeMetres, .int 0, .int 0])), (x_rises, .inl (cI, 30, .inl (fun _ => 0))), (x_winds, .inl (cI, 30, .inl (fun _ => 0))), (x_primeMetres, .inl (cI, 5, .inl (fun _ => 0)))] := hD
      refine lv_iconst (v := 0) hx hb dX6_renew_18 (by decide) ?_
      refine lv_istore_n (lv' := [(2, .int 0), (0, .ref h0), (1, .int pN)]) hx hb dX6_renew_19 rfl hl (by decide) rfl (fun ls hl => ?_)
      have L_3 : ∀ (n : Nat) (i : Int32) (f : Nat → Int32) (f2 : Nat → Int32) (H : Heap) (locs : List Loc) (ls : Array Slot), (0 ≤ i.toInt) → (i.toInt ≤ 30) → (30 - i.toInt) < (n : Int) → va_P (dC, dI) vwCl [(h0, .inr (6, [.int pN, .ref x_rises, .ref x_winds, .int 0, .ref x_primeMetres, .int 0, .int 0])), (x_rises, .inl (cI, 30, .inl f)), (x_winds, .inl (cI, 30, .inl f2)), (x_primeMetres, .inl (cI, 5, .inl (fun _ => 0)))] H → va_D A [(h0, .inr (6, [.int pN, .ref x_rises, .ref x_winds, .int 0, .ref x_primeMetres, .int 0, .int 0])), (x_rises, .inl (cI, 30, .inl f)), (x_winds, .inl (cI, 30, .inl f2)), (x_primeMetres, .inl (cI, 5, .inl (fun _ => 0)))] → va_S A s.heap H locs → lv_has ls 3 [(2, .int i), (0, .ref h0), (1, .int pN)] → W p l e ((headSpec (Cond.code yX6_renew cX6_renew 3 (some .boolean) :: lw_good) ({ frames := 0, cells := 0, slots := 0, locals := 0 })).room) s m (([.ref h0, .int pN] : List Value).toArray) below meth c H locs 0 0 (MQ below (va_Qi (fun (r u : Int32) => r = u) (fun u t => ((u = 1 ∧ (1 ≤ pN_i ∧ pN_i ≤ 30)) ∨ (u = 0 ∧ ¬ (1 ≤ pN_i ∧ pN_i ≤ 30))) ∧ va_P (dC, dI) vwCl [] t.heap ∧ va_K (dC, dI) vwCl [(cI, .int), (cZ, .boolean)] t ∧ va_D A []) A) (([.ref h0, .int pN] : List Value).toArray) s 0 0 A) (F0 m 20 ls []) := by
        intro n
        induction n with
        | zero =>
          intro i f f2 H locs ls hI0 hI1 hM
          exact absurd hM (by omega)
        | succ n ih =>
          intro i f f2 H locs ls hI0 hI1 hM hP hD hS hl
          have ih_4 := ih
          refine lv_iload_n hx hb dX6_renew_20 rfl (lv_at hl 0 rfl) ?_
          refine lv_bipush (v := 30) hx hb dX6_renew_21 (by decide) ?_
          refine lv_icmp_ge (tgt := 46) hx hb dX6_renew_23 (by decide) (fun c_5 => ?_) (fun c_5 => ?_)
          ·
            have c_5 : (30:Int) ≤ (i).toInt := zz_le (by decide) rfl c_5
            refine lv_aload_n hx hb dX6_renew_46 rfl (lv_at hl 1 rfl) ?_
            refine lv_iconst (v := 0) hx hb dX6_renew_47 (by decide) ?_
            refine va_put (D := (dC, dI)) (ci := 6) (v := .int 0) (ty := .int) (C := RX6) (T := TX6) (N := 7) hx hb hts hiX6 tyX6 tyX6_ok nmX6 hown hK hP hD hS 0 rfl rfl 3 (by decide) hw1 (fun _ h9 => h9) rfl (by decide +kernel) rfl rfl (Nat.le_of_ble_eq_true rfl) dX6_renew_48 (fun H locs hP hD hS => ?_)
            have hP : va_P (dC, dI) vwCl [(h0, .inr (6, [.int pN, .ref x_rises, .ref x_winds, .int 0, .ref x_primeMetres, .int 0, .int 0])), (x_rises, .inl (cI, 30, .inl f)), (x_winds, .inl (cI, 30, .inl f2)), (x_primeMetres, .inl (cI, 5, .inl (fun _ => 0)))] H := hP
            have hD : va_D A [(h0, .inr (6, [.int pN, .ref x_rises, .ref x_winds, .int 0, .ref x_primeMetres, .int 0, .int 0])), (x_rises, .inl (cI, 30, .inl f)), (x_winds, .inl (cI, 30, .inl f2)), (x_primeMetres, .inl (cI, 5, .inl (fun _ => 0)))] := hD
            refine lv_aload_n hx hb dX6_renew_51 rfl (lv_at hl 1 rfl) ?_
            refine lv_iconst (v := 0) hx hb dX6_renew_52 (by decide) ?_
            refine va_put (D := (dC, dI)) (ci := 6) (v := .int 0) (ty := .int) (C := RX6) (T := TX6) (N := 7) hx hb hts hiX6 tyX6 tyX6_ok nmX6 hown hK hP hD hS 0 rfl rfl 5 (by decide) hw2 (fun _ h9 => h9) rfl (by decide +kernel) rfl rfl (Nat.le_of_ble_eq_true rfl) dX6_renew_53 (fun H locs hP hD hS => ?_)
            have hP : va_P (dC, dI) vwCl [(h0, .inr (6, [.int pN, .ref x_rises, .ref x_winds, .int 0, .ref x_primeMetres, .int 0, .int 0])), (x_rises, .inl (cI, 30, .inl f)), (x_winds, .inl (cI, 30, .inl f2)), (x_primeMetres, .inl (cI, 5, .inl (fun _ => 0)))] H := hP
            have hD : va_D A [(h0, .inr (6, [.int pN, .ref x_rises, .ref x_winds, .int 0, .ref x_primeMetres, .int 0, .int 0])), (x_rises, .inl (cI, 30, .inl f)), (x_winds, .inl (cI, 30, .inl f2)), (x_primeMetres, .inl (cI, 5, .inl (fun _ => 0)))] := hD
            refine lv_aload_n hx hb dX6_renew_56 rfl (lv_at hl 1 rfl) ?_
            refine lv_iconst (v := 0) hx hb dX6_renew_57 (by decide) ?_
            refine va_put (D := (dC, dI)) (ci := 6) (v := .int 0) (ty := .int) (C := RX6) (T := TX6) (N := 7) hx hb hts hiX6 tyX6 tyX6_ok nmX6 hown hK hP hD hS 0 rfl rfl 6 (by decide) hw3 (fun _ h9 => h9) rfl (by decide +kernel) rfl rfl (Nat.le_of_ble_eq_true rfl) dX6_renew_58 (fun H locs hP hD hS => ?_)
            have hP : va_P (dC, dI) vwCl [(h0, .inr (6, [.int pN, .ref x_rises, .ref x_winds, .int 0, .ref x_primeMetres, .int 0, .int 0])), (x_rises, .inl (cI, 30, .inl f)), (x_winds, .inl (cI, 30, .inl f2)), (x_primeMetres, .inl (cI, 5, .inl (fun _ => 0)))] H := hP
            have hD : va_D A [(h0, .inr (6, [.int pN, .ref x_rises, .ref x_winds, .int 0, .ref x_primeMetres, .int 0, .int 0])), (x_rises, .inl (cI, 30, .inl f)), (x_winds, .inl (cI, 30, .inl f2)), (x_primeMetres, .inl (cI, 5, .inl (fun _ => 0)))] := hD
            refine lv_iconst (v := 1) hx hb dX6_renew_61 (by decide) ?_
            have hP9 := hP.sub (ws' := []) [] rfl
            have hD9 := hD.sub (ws' := []) [] (by decide) rfl
            refine W.widen (k := 0) (n := 0) (Nat.le_of_ble_eq_true rfl) (Nat.le_of_ble_eq_true rfl) ?_
            have hu9 : (1 : Int32).toInt = (1:Int) := (by decide)
            have hf9_0 : ((1 : Int32) = 1 ∧ (1 ≤ pN_i ∧ pN_i ≤ 30)) ∨ ((1 : Int32) = 0 ∧ ¬ (1 ≤ pN_i ∧ pN_i ≤ 30)) := Or.inl ⟨rfl, by omega⟩
            exact W.zret (v := 1) hx hb hr rfl (fun t ht hW => ⟨⟨1, 1, rfl, rfl, hf9_0, by rw [ht]; exact hP9, va_K.moved hW.alike hK, hD9⟩, hS.F ht⟩) hS.2.2 dX6_renew_62
          ·
            have c_5 : ¬ ((30:Int) ≤ (i).toInt) := zz_len (by decide) rfl c_5
            refine lv_aload_n hx hb dX6_renew_26 rfl (lv_at hl 1 rfl) ?_
            refine va_get (D := (dC, dI)) (ci := 6) (v := .ref x_rises) (C := RX6) (T := TX6) (N := 7) hx hb hts hiX6 hown hK hP 0 rfl rfl 1 (by decide) hw4 (fun _ h9 => h9) rfl dX6_renew_27 ?_
            refine lv_iload_n hx hb dX6_renew_30 rfl (lv_at hl 0 rfl) ?_
            refine lv_iconst (v := 0) hx hb dX6_renew_31 (by decide) ?_
            refine va_iast hx hb hK hP hD hS 1 0 rfl rfl (zz_in rfl (by omega) (by omega)) dX6_renew_32 (fun H locs hP hD hS => ?_)
            have hP : va_P (dC, dI) vwCl [(h0, .inr (6, [.int pN, .ref x_rises, .ref x_winds, .int 0, .ref x_primeMetres, .int 0, .int 0])), (x_rises, .inl (cI, 30, .inl (upd f (Int32.toNatClampNeg i) 0))), (x_winds, .inl (cI, 30, .inl f2)), (x_primeMetres, .inl (cI, 5, .inl (fun _ => 0)))] H := hP
            have hD : va_D A [(h0, .inr (6, [.int pN, .ref x_rises, .ref x_winds, .int 0, .ref x_primeMetres, .int 0, .int 0])), (x_rises, .inl (cI, 30, .inl (upd f (Int32.toNatClampNeg i) 0))), (x_winds, .inl (cI, 30, .inl f2)), (x_primeMetres, .inl (cI, 5, .inl (fun _ => 0)))] := hD
            refine lv_aload_n hx hb dX6_renew_33 rfl (lv_at hl 1 rfl) ?_
            refine va_get (D := (dC, dI)) (ci := 6) (v := .ref x_winds) (C := RX6) (T := TX6) (N := 7) hx hb hts hiX6 hown hK hP 0 rfl rfl 2 (by decide) hw5 (fun _ h9 => h9) rfl dX6_renew_34 ?_
            refine lv_iload_n hx hb dX6_renew_37 rfl (lv_at hl 0 rfl) ?_
            refine lv_iconst (v := 0) hx hb dX6_renew_38 (by decide) ?_
            refine va_iast hx hb hK hP hD hS 2 0 rfl rfl (zz_in rfl (by omega) (by omega)) dX6_renew_39 (fun H locs hP hD hS => ?_)
            have hP : va_P (dC, dI) vwCl [(h0, .inr (6, [.int pN, .ref x_rises, .ref x_winds, .int 0, .ref x_primeMetres, .int 0, .int 0])), (x_rises, .inl (cI, 30, .inl (upd f (Int32.toNatClampNeg i) 0))), (x_winds, .inl (cI, 30, .inl (upd f2 (Int32.toNatClampNeg i) 0))), (x_primeMetres, .inl (cI, 5, .inl (fun _ => 0)))] H := hP
            have hD : va_D A [(h0, .inr (6, [.int pN, .ref x_rises, .ref x_winds, .int 0, .ref x_primeMetres, .int 0, .int 0])), (x_rises, .inl (cI, 30, .inl (upd f (Int32.toNatClampNeg i) 0))), (x_winds, .inl (cI, 30, .inl (upd f2 (Int32.toNatClampNeg i) 0))), (x_primeMetres, .inl (cI, 5, .inl (fun _ => 0)))] := hD
            obtain ⟨v_6, ev_6⟩ : ∃ y : Int32, y = i + 1 := ⟨_, rfl⟩
            have hv_6 : v_6.toInt = ((i).toInt + (1:Int)) := by rw [ev_6]; exact zz_addI rfl (by decide) (by omega) (by omega)
            refine lv_iinc (v := v_6) (lv' := [(2, .int v_6), (0, .ref h0), (1, .int pN)]) hx hb dX6_renew_40 hl (k := 0) rfl (by rw [ev_6]; rfl) (by decide) rfl (fun ls hl => ?_)
            refine lv_goto (tgt := 20) hx hb dX6_renew_43 (by decide) ?_
            have hb9_i : (v_6 : Int32).toInt = ((i).toInt + (1:Int)) := hv_6
            exact ih_4 v_6 (upd f (Int32.toNatClampNeg i) 0) (upd f2 (Int32.toNatClampNeg i) 0) H locs ls (by omega) (by omega) (by omega) (hP.sub [0, 1, 2, 3] rfl) (hD.sub [0, 1, 2, 3] (by decide) rfl) hS (lv_sub hl [0, 1, 2] rfl)
      have hb9_i : (0 : Int32).toInt = (0:Int) := (by decide)
      exact L_3 1000 0 (fun _ => 0) (fun _ => 0) H locs ls (by omega) (by omega) (by omega) hP hD hS hl
    ·
      have c_2 : ¬ (pN_i ≤ (30:Int)) := zz_len pN_h (by decide) c_2
      refine lv_iconst (v := 0) hx hb dX6_renew_11 (by decide) ?_
      have hP9 := hP.sub (ws' := []) [] rfl
      have hD9 := hD.sub (ws' := []) [] (by decide) rfl
      refine W.widen (k := 0) (n := 0) (Nat.le_of_ble_eq_true rfl) (Nat.le_of_ble_eq_true rfl) ?_
      have hu9 : (0 : Int32).toInt = (0:Int) := (by decide)
      have hf9_0 : ((0 : Int32) = 1 ∧ (1 ≤ pN_i ∧ pN_i ≤ 30)) ∨ ((0 : Int32) = 0 ∧ ¬ (1 ≤ pN_i ∧ pN_i ≤ 30)) := Or.inr ⟨rfl, by omega⟩
      exact W.zret (v := 0) hx hb hr rfl (fun t ht hW => ⟨⟨0, 0, rfl, rfl, hf9_0, by rw [ht]; exact hP9, va_K.moved hW.alike hK, hD9⟩, hS.F ht⟩) hS.2.2 dX6_renew_12

set_option maxHeartbeats 4000000 in
set_option maxRecDepth 100000 in
theorem c_X9_road (l : Launch) (dC : Nat → ClassId) (dI : Nat → Nat → Nat) (cI cZ : ClassId) (sz : Nat) (h0 : Nat) (x_riders : Nat) (x_road : Nat) (x_tape : Nat) (x_book : Nat) (x_reader : Nat) (x_latest : Nat) (x_log : Nat) (x_trial : Nat) (x_stages : Nat) (x_ro_rises : Nat) (x_ro_winds : Nat) (x_ro_primeMetres : Nat) (pN : Int32) (pN_i : Int) (pN_h : pN.toInt = pN_i) : Met l yX9_road (Cond.code yX9_road cX9_road 2 (some .boolean) :: lw_good) ({ frames := 1, cells := 0, slots := 0, locals := 22 }) (va_Pc [.ref h0, .int pN] (fun U => U.heap.size = sz ∧ va_P (dC, dI) vwCl [(h0, .inr (9, [.ref x_riders, .ref x_road, .ref x_tape, .ref x_book, .ref x_reader, .ref x_latest, .ref x_log, .ref x_trial, .ref x_stages, .int 0, .int 0, .int 0])), (x_road, .inr (6, [.int 1, .ref x_ro_rises, .ref x_ro_winds, .int 0, .ref x_ro_primeMetres, .int 0, .int 0])), (x_ro_rises, .inl (cI, 30, .inl (fun _ => 0))), (x_ro_winds, .inl (cI, 30, .inl (fun _ => 0))), (x_ro_primeMetres, .inl (cI, 5, .inl (fun _ => 0)))] U.heap ∧ va_K (dC, dI) vwCl [(cI, .int), (cZ, .boolean)] U ∧ va_D (fun _ => True) [(h0, .inr (9, [.ref x_riders, .ref x_road, .ref x_tape, .ref x_book, .ref x_reader, .ref x_latest, .ref x_log, .ref x_trial, .ref x_stages, .int 0, .int 0, .int 0])), (x_road, .inr (6, [.int 1, .ref x_ro_rises, .ref x_ro_winds, .int 0, .ref x_ro_primeMetres, .int 0, .int 0])), (x_ro_rises, .inl (cI, 30, .inl (fun _ => 0))), (x_ro_winds, .inl (cI, 30, .inl (fun _ => 0))), (x_ro_primeMetres, .inl (cI, 5, .inl (fun _ => 0)))])) (va_Qi (fun (r u : Int32) => r = u) (fun u t => ((u = 1 ∧ (1 ≤ pN_i ∧ pN_i ≤ 30)) ∨ (u = 0 ∧ ¬ (1 ≤ pN_i ∧ pN_i ≤ 30))) ∧ va_P (dC, dI) vwCl [] t.heap ∧ va_K (dC, dI) vwCl [(cI, .int), (cZ, .boolean)] t ∧ va_D (va_A [(h0, .inr (9, [.ref x_riders, .ref x_road, .ref x_tape, .ref x_book, .ref x_reader, .ref x_latest, .ref x_log, .ref x_trial, .ref x_stages, .int 0, .int 0, .int 0])), (x_road, .inr (6, [.int 1, .ref x_ro_rises, .ref x_ro_winds, .int 0, .ref x_ro_primeMetres, .int 0, .int 0])), (x_ro_rises, .inl (cI, 30, .inl (fun _ => 0))), (x_ro_winds, .inl (cI, 30, .inl (fun _ => 0))), (x_ro_primeMetres, .inl (cI, 5, .inl (fun _ => 0)))] sz) []) (va_A [(h0, .inr (9, [.ref x_riders, .ref x_road, .ref x_tape, .ref x_book, .ref x_reader, .ref x_latest, .ref x_log, .ref x_trial, .ref x_stages, .int 0, .int 0, .int 0])), (x_road, .inr (6, [.int 1, .ref x_ro_rises, .ref x_ro_winds, .int 0, .ref x_ro_primeMetres, .int 0, .int 0])), (x_ro_rises, .inl (cI, 30, .inl (fun _ => 0))), (x_ro_winds, .inl (cI, 30, .inl (fun _ => 0))), (x_ro_primeMetres, .inl (cI, 5, .inl (fun _ => 0)))] sz)) 0 0 (va_A [(h0, .inr (9, [.ref x_riders, .ref x_road, .ref x_tape, .ref x_book, .ref x_reader, .ref x_latest, .ref x_log, .ref x_trial, .ref x_stages, .int 0, .int 0, .int 0])), (x_road, .inr (6, [.int 1, .ref x_ro_rises, .ref x_ro_winds, .int 0, .ref x_ro_primeMetres, .int 0, .int 0])), (x_ro_rises, .inl (cI, 30, .inl (fun _ => 0))), (x_ro_winds, .inl (cI, 30, .inl (fun _ => 0))), (x_ro_primeMetres, .inl (cI, 5, .inl (fun _ => 0)))] sz) := by
  refine Met.ofW (cc := cX9_road) (maxL := 2) (ret := (some .boolean)) (by decide) rfl ?_
  intro p e s m args below meth c s₁ B hml hv
  obtain ⟨rfl, hsz, hP, hK, hD0⟩ := hv
  have hx := B.exec
  have hb := B.bytes
  have hr := B.returns
  have hts := atoms_spec (ws := Cond.code yX9_road cX9_road 2 (some .boolean) :: lw_good) B.pre
  have hown : s.vm.findClass RX9 = some m.cls := findClass_of_methodNamed B.named
  have hlocks := B.notSynchronized
  have hiX9 : ∀ w ∈ wsX90, w ∈ (Cond.code yX9_road cX9_road 2 (some .boolean) :: lw_good) := fun w h => List.mem_cons_of_mem _ (zi_X9 w h)
  have hw0 := hts (.fieldLink RX9 19 "BunchRace" "road" "LBunchRace$Road;") (List.mem_cons_of_mem _ zw_335)
  have hw1 := hts (.initialized RX6) (List.mem_cons_of_mem _ zw_50)
  have hw2 := hts (.methodLink RX9 86 yX6_renew) (List.mem_cons_of_mem _ zw_386)
  have hw3 := hts (.instanceMethod yX6_renew) (List.mem_cons_of_mem _ zw_387)
  have hw4 := hts (.selects RX6 yX6_renew yX6_renew) (List.mem_cons_of_mem _ zw_388)
  subst hsz
  have hD := hD0.self (sz := s.heap.size)
  generalize hAe : va_A [(h0, .inr (9, [.ref x_riders, .ref x_road, .ref x_tape, .ref x_book, .ref x_reader, .ref x_latest, .ref x_log, .ref x_trial, .ref x_stages, .int 0, .int 0, .int 0])), (x_road, .inr (6, [.int 1, .ref x_ro_rises, .ref x_ro_winds, .int 0, .ref x_ro_primeMetres, .int 0, .int 0])), (x_ro_rises, .inl (cI, 30, .inl (fun _ => 0))), (x_ro_winds, .inl (cI, 30, .inl (fun _ => 0))), (x_ro_primeMetres, .inl (cI, 5, .inl (fun _ => 0)))] s.heap.size = A at hD ⊢
  have hA : ∀ q : Nat, s.heap.size ≤ q → A q := fun q h => by rw [← hAe]; exact Or.inr h
  have hS : va_S A s.heap s.heap [] := va_S.rf
  have hP : va_P (dC, dI) vwCl [(h0, .inr (9, [.ref x_riders, .ref x_road, .ref x_tape, .ref x_book, .ref x_reader, .ref x_latest, .ref x_log, .ref x_trial, .ref x_stages, .int 0, .int 0, .int 0])), (x_road, .inr (6, [.int 1, .ref x_ro_rises, .ref x_ro_winds, .int 0, .ref x_ro_primeMetres, .int 0, .int 0])), (x_ro_rises, .inl (cI, 30, .inl (fun _ => 0))), (x_ro_winds, .inl (cI, 30, .inl (fun _ => 0))), (x_ro_primeMetres, .inl (cI, 5, .inl (fun _ => 0)))] s.heap := hP
  have hl := lv_entry ([.ref h0, .int pN]) (n := 2) (Nat.le_of_ble_eq_true rfl)
  rw [lg_entry_eq]
  generalize (lg_sl ([.ref h0, .int pN]) ++ List.replicate (2 - (lg_sl ([.ref h0, .int pN])).length) Slot.unset).toArray = ls at hl ⊢
  have hl : lv_has ls 2 [(0, .ref h0), (1, .int pN)] := hl
  refine lv_aload_n hx hb dX9_road_0 rfl (lv_at hl 0 rfl) ?_
  refine va_get (D := (dC, dI)) (ci := 9) (v := .ref x_road) (C := RX9) (T := TX9) (N := 12) hx hb hts hiX9 hown hK hP 0 rfl rfl 1 (by decide) hw0 (fun _ h9 => h9) rfl dX9_road_1 ?_
  refine lv_iload_n hx hb dX9_road_4 rfl (lv_at hl 1 rfl) ?_
  have hPc := hP.sub (ws' := [(x_road, .inr (6, [.int 1, .ref x_ro_rises, .ref x_ro_winds, .int 0, .ref x_ro_primeMetres, .int 0, .int 0])), (x_ro_rises, .inl (cI, 30, .inl (fun _ => 0))), (x_ro_winds, .inl (cI, 30, .inl (fun _ => 0))), (x_ro_primeMetres, .inl (cI, 5, .inl (fun _ => 0)))]) [1, 2, 3, 4] rfl
  have hDc := hD.sub (ws' := [(x_road, .inr (6, [.int 1, .ref x_ro_rises, .ref x_ro_winds, .int 0, .ref x_ro_primeMetres, .int 0, .int 0])), (x_ro_rises, .inl (cI, 30, .inl (fun _ => 0))), (x_ro_winds, .inl (cI, 30, .inl (fun _ => 0))), (x_ro_primeMetres, .inl (cI, 5, .inl (fun _ => 0)))]) [1, 2, 3, 4] (by decide) rfl
  have hFc := va_free (wc := [(x_road, .inr (6, [.int 1, .ref x_ro_rises, .ref x_ro_winds, .int 0, .ref x_ro_primeMetres, .int 0, .int 0])), (x_ro_rises, .inl (cI, 30, .inl (fun _ => 0))), (x_ro_winds, .inl (cI, 30, .inl (fun _ => 0))), (x_ro_primeMetres, .inl (cI, 5, .inl (fun _ => 0)))]) hD hS hA [1, 2, 3, 4] rfl
  refine va_calli (va_runV (As := [.int pN]) (rest := []) ⟨hx, hb, hml, hown, hts⟩ (c_X6_renew l dC dI cI cZ (s.heap).size x_road x_ro_rises x_ro_winds x_ro_primeMetres pN pN_i pN_h) ⟨callB_of 1 hts (zz_good zw_389) rfl rfl rfl hw1 hw2 (by decide +kernel) ⟨Nat.le_of_ble_eq_true rfl, Nat.le_of_ble_eq_true rfl⟩, hw3, hw4⟩ ⟨fun a U g mk q => by obtain ⟨q0, q1, qP, qK, qD⟩ := q; exact ⟨q0, q1, qP, va_K.moved (u := U) (U := U.calling g mk a) (Vm.Alike.refl U.vm) qK, qD⟩, va_recv hK hPc (ci := 6) (q0 := 0) rfl rfl, fun U hU hW => ⟨rfl, by rw [hU], by rw [hU]; exact hPc, va_K.moved hW.alike hK, hDc.weaken (fun _ _ _ _ => trivial)⟩⟩ rfl rfl hl.1 rfl (lv_room (Nat.le_of_ble_eq_true rfl)) dX9_road_5 ⟨Nat.le_of_ble_eq_true rfl, Nat.le_of_ble_eq_true rfl⟩) hS (fun q _ h => hFc q h) hFc (fun r_1 u t H1 locs ht hvm hpost hB hz1 hk1 hS => ?_)
  subst hpost
  obtain ⟨hf_2, hP1, hK1, hD1⟩ := hB
  rw [ht] at hP1
  obtain ⟨hP, hD⟩ := va_join (wr := [(h0, .inr (9, [.ref x_riders, .ref x_road, .ref x_tape, .ref x_book, .ref x_reader, .ref x_latest, .ref x_log, .ref x_trial, .ref x_stages, .int 0, .int 0, .int 0]))]) (w1 := []) hP hD [1, 2, 3, 4] [0] rfl rfl (by decide) (by decide) hk1 hFc hP1 hD1
  generalize H1 = H at hP hS ⊢
  have hP : va_P (dC, dI) vwCl [(h0, .inr (9, [.ref x_riders, .ref x_road, .ref x_tape, .ref x_book, .ref x_reader, .ref x_latest, .ref x_log, .ref x_trial, .ref x_stages, .int 0, .int 0, .int 0]))] H := hP
  have hD : va_D A [(h0, .inr (9, [.ref x_riders, .ref x_road, .ref x_tape, .ref x_book, .ref x_reader, .ref x_latest, .ref x_log, .ref x_trial, .ref x_stages, .int 0, .int 0, .int 0]))] := hD
  have hf_2 : (r_1 = 1 ∧ (1 ≤ pN_i ∧ pN_i ≤ 30)) ∨ (r_1 = 0 ∧ ¬ (1 ≤ pN_i ∧ pN_i ≤ 30)) := hf_2
  rcases hf_2 with ⟨rfl, hf_2⟩ | ⟨rfl, hf_2⟩
  ·
    have hP9 := hP.sub (ws' := []) [] rfl
    have hD9 := hD.sub (ws' := []) [] (by decide) rfl
    refine W.widen (k := 0) (n := 0) (Nat.le_of_ble_eq_true rfl) (Nat.le_of_ble_eq_true rfl) ?_
    have hu9 : (1 : Int32).toInt = (1:Int) := (by decide)
    have hf9_0 : ((1 : Int32) = 1 ∧ (1 ≤ pN_i ∧ pN_i ≤ 30)) ∨ ((1 : Int32) = 0 ∧ ¬ (1 ≤ pN_i ∧ pN_i ≤ 30)) := Or.inl ⟨rfl, by omega⟩
    exact W.zret (v := 1) hx hb hr rfl (fun t ht hW => ⟨⟨1, 1, rfl, rfl, hf9_0, by rw [ht]; exact hP9, va_K.moved hW.alike hK, hD9⟩, hS.F ht⟩) hS.2.2 dX9_road_8
  ·
    have hP9 := hP.sub (ws' := []) [] rfl
    have hD9 := hD.sub (ws' := []) [] (by decide) rfl
    refine W.widen (k := 0) (n := 0) (Nat.le_of_ble_eq_true rfl) (Nat.le_of_ble_eq_true rfl) ?_
    have hu9 : (0 : Int32).toInt = (0:Int) := (by decide)
    have hf9_0 : ((0 : Int32) = 1 ∧ (1 ≤ pN_i ∧ pN_i ≤ 30)) ∨ ((0 : Int32) = 0 ∧ ¬ (1 ≤ pN_i ∧ pN_i ≤ 30)) := Or.inr ⟨rfl, by omega⟩
    exact W.zret (v := 0) hx hb hr rfl (fun t ht hW => ⟨⟨0, 0, rfl, rfl, hf9_0, by rw [ht]; exact hP9, va_K.moved hW.alike hK, hD9⟩, hS.F ht⟩) hS.2.2 dX9_road_8

set_option maxHeartbeats 4000000 in
set_option maxRecDepth 100000 in
theorem c_X6_shape (l : Launch) (dC : Nat → ClassId) (dI : Nat → Nat → Nat) (cI cZ : ClassId) (sz : Nat) (h0 : Nat) (x_rises : Nat) (x_winds : Nat) (x_primeMetres : Nat) (pK : Int32) (pK_i : Int) (pK_h : pK.toInt = pK_i) (pR : Int32) (pR_i : Int) (pR_h : pR.toInt = pR_i) (pW : Int32) (pW_i : Int) (pW_h : pW.toInt = pW_i) : Met l yX6_shape (Cond.code yX6_shape cX6_shape 4 (some .boolean) :: lw_good) ({ frames := 0, cells := 0, slots := 0, locals := 0 }) (va_Pc [.ref h0, .int pK, .int pR, .int pW] (fun U => U.heap.size = sz ∧ va_P (dC, dI) vwCl [(h0, .inr (6, [.int 1, .ref x_rises, .ref x_winds, .int 0, .ref x_primeMetres, .int 0, .int 0])), (x_rises, .inl (cI, 30, .inl (fun _ => 0))), (x_winds, .inl (cI, 30, .inl (fun _ => 0))), (x_primeMetres, .inl (cI, 5, .inl (fun _ => 0)))] U.heap ∧ va_K (dC, dI) vwCl [(cI, .int), (cZ, .boolean)] U ∧ va_D (fun _ => True) [(h0, .inr (6, [.int 1, .ref x_rises, .ref x_winds, .int 0, .ref x_primeMetres, .int 0, .int 0])), (x_rises, .inl (cI, 30, .inl (fun _ => 0))), (x_winds, .inl (cI, 30, .inl (fun _ => 0))), (x_primeMetres, .inl (cI, 5, .inl (fun _ => 0)))])) (va_Qi (fun (r u : Int32) => r = u) (fun u t => ((u = 1 ∧ (pK_i = 0 ∧ -5 ≤ pR_i ∧ pR_i ≤ 10 ∧ -3 ≤ pW_i ∧ pW_i ≤ 9)) ∨ (u = 0 ∧ ¬ (pK_i = 0 ∧ -5 ≤ pR_i ∧ pR_i ≤ 10 ∧ -3 ≤ pW_i ∧ pW_i ≤ 9))) ∧ va_P (dC, dI) vwCl [] t.heap ∧ va_K (dC, dI) vwCl [(cI, .int), (cZ, .boolean)] t ∧ va_D (va_A [(h0, .inr (6, [.int 1, .ref x_rises, .ref x_winds, .int 0, .ref x_primeMetres, .int 0, .int 0])), (x_rises, .inl (cI, 30, .inl (fun _ => 0))), (x_winds, .inl (cI, 30, .inl (fun _ => 0))), (x_primeMetres, .inl (cI, 5, .inl (fun _ => 0)))] sz) []) (va_A [(h0, .inr (6, [.int 1, .ref x_rises, .ref x_winds, .int 0, .ref x_primeMetres, .int 0, .int 0])), (x_rises, .inl (cI, 30, .inl (fun _ => 0))), (x_winds, .inl (cI, 30, .inl (fun _ => 0))), (x_primeMetres, .inl (cI, 5, .inl (fun _ => 0)))] sz)) 0 0 (va_A [(h0, .inr (6, [.int 1, .ref x_rises, .ref x_winds, .int 0, .ref x_primeMetres, .int 0, .int 0])), (x_rises, .inl (cI, 30, .inl (fun _ => 0))), (x_winds, .inl (cI, 30, .inl (fun _ => 0))), (x_primeMetres, .inl (cI, 5, .inl (fun _ => 0)))] sz) := by
  refine Met.ofW (cc := cX6_shape) (maxL := 4) (ret := (some .boolean)) (by decide) rfl ?_
  intro p e s m args below meth c s₁ B hml hv
  obtain ⟨rfl, hsz, hP, hK, hD0⟩ := hv
  have hx := B.exec
  have hb := B.bytes
  have hr := B.returns
  have hts := atoms_spec (ws := Cond.code yX6_shape cX6_shape 4 (some .boolean) :: lw_good) B.pre
  have hown : s.vm.findClass RX6 = some m.cls := findClass_of_methodNamed B.named
  have hlocks := B.notSynchronized
  have hiX6 : ∀ w ∈ wsX60, w ∈ (Cond.code yX6_shape cX6_shape 4 (some .boolean) :: lw_good) := fun w h => List.mem_cons_of_mem _ (zi_X6 w h)
  have hw0 := hts (.fieldLink RX6 9 "BunchRace$Road" "kilometres" "I") (List.mem_cons_of_mem _ zw_105)
  have hw1 := hts (.fieldLink RX6 15 "BunchRace$Road" "rises" "[I") (List.mem_cons_of_mem _ zw_107)
  have hw2 := hts (.fieldLink RX6 19 "BunchRace$Road" "winds" "[I") (List.mem_cons_of_mem _ zw_109)
  subst hsz
  have hD := hD0.self (sz := s.heap.size)
  generalize hAe : va_A [(h0, .inr (6, [.int 1, .ref x_rises, .ref x_winds, .int 0, .ref x_primeMetres, .int 0, .int 0])), (x_rises, .inl (cI, 30, .inl (fun _ => 0))), (x_winds, .inl (cI, 30, .inl (fun _ => 0))), (x_primeMetres, .inl (cI, 5, .inl (fun _ => 0)))] s.heap.size = A at hD ⊢
  have hA : ∀ q : Nat, s.heap.size ≤ q → A q := fun q h => by rw [← hAe]; exact Or.inr h
  have hS : va_S A s.heap s.heap [] := va_S.rf
  have hP : va_P (dC, dI) vwCl [(h0, .inr (6, [.int 1, .ref x_rises, .ref x_winds, .int 0, .ref x_primeMetres, .int 0, .int 0])), (x_rises, .inl (cI, 30, .inl (fun _ => 0))), (x_winds, .inl (cI, 30, .inl (fun _ => 0))), (x_primeMetres, .inl (cI, 5, .inl (fun _ => 0)))] s.heap := hP
  have hl := lv_entry ([.ref h0, .int pK, .int pR, .int pW]) (n := 4) (Nat.le_of_ble_eq_true rfl)
  rw [lg_entry_eq]
  generalize (lg_sl ([.ref h0, .int pK, .int pR, .int pW]) ++ List.replicate (4 - (lg_sl ([.ref h0, .int pK, .int pR, .int pW])).length) Slot.unset).toArray = ls at hl ⊢
  have hl : lv_has ls 4 [(0, .ref h0), (1, .int pK), (2, .int pR), (3, .int pW)] := hl
  refine lv_iload_n hx hb dX6_shape_0 rfl (lv_at hl 1 rfl) ?_
  refine lv_if_lt (tgt := 36) hx hb dX6_shape_1 (by decide) (fun c_1 => ?_) (fun c_1 => ?_)
  ·
    have c_1 : pK_i < (0:Int) := zz_lt pK_h (by decide) c_1
    refine lv_iconst (v := 0) hx hb dX6_shape_36 (by decide) ?_
    have hP9 := hP.sub (ws' := []) [] rfl
    have hD9 := hD.sub (ws' := []) [] (by decide) rfl
    refine W.widen (k := 0) (n := 0) (Nat.le_of_ble_eq_true rfl) (Nat.le_of_ble_eq_true rfl) ?_
    have hu9 : (0 : Int32).toInt = (0:Int) := (by decide)
    have hf9_0 : ((0 : Int32) = 1 ∧ (pK_i = 0 ∧ -5 ≤ pR_i ∧ pR_i ≤ 10 ∧ -3 ≤ pW_i ∧ pW_i ≤ 9)) ∨ ((0 : Int32) = 0 ∧ ¬ (pK_i = 0 ∧ -5 ≤ pR_i ∧ pR_i ≤ 10 ∧ -3 ≤ pW_i ∧ pW_i ≤ 9)) := Or.inr ⟨rfl, by omega⟩
    exact W.zret (v := 0) hx hb hr rfl (fun t ht hW => ⟨⟨0, 0, rfl, rfl, hf9_0, by rw [ht]; exact hP9, va_K.moved hW.alike hK, hD9⟩, hS.F ht⟩) hS.2.2 dX6_shape_37
  ·
    have c_1 : ¬ (pK_i < (0:Int)) := zz_ltn pK_h (by decide) c_1
    refine lv_iload_n hx hb dX6_shape_4 rfl (lv_at hl 1 rfl) ?_
    refine lv_aload_n hx hb dX6_shape_5 rfl (lv_at hl 0 rfl) ?_
    refine va_get (D := (dC, dI)) (ci := 6) (v := .int 1) (C := RX6) (T := TX6) (N := 7) hx hb hts hiX6 hown hK hP 0 rfl rfl 0 (by decide) hw0 (fun _ h9 => h9) rfl dX6_shape_6 ?_
    refine lv_icmp_ge (tgt := 36) hx hb dX6_shape_9 (by decide) (fun c_2 => ?_) (fun c_2 => ?_)
    ·
      have c_2 : (1:Int) ≤ pK_i := zz_le (by decide) pK_h c_2
      refine lv_iconst (v := 0) hx hb dX6_shape_36 (by decide) ?_
      have hP9 := hP.sub (ws' := []) [] rfl
      have hD9 := hD.sub (ws' := []) [] (by decide) rfl
      refine W.widen (k := 0) (n := 0) (Nat.le_of_ble_eq_true rfl) (Nat.le_of_ble_eq_true rfl) ?_
      have hu9 : (0 : Int32).toInt = (0:Int) := (by decide)
      have hf9_0 : ((0 : Int32) = 1 ∧ (pK_i = 0 ∧ -5 ≤ pR_i ∧ pR_i ≤ 10 ∧ -3 ≤ pW_i ∧ pW_i ≤ 9)) ∨ ((0 : Int32) = 0 ∧ ¬ (pK_i = 0 ∧ -5 ≤ pR_i ∧ pR_i ≤ 10 ∧ -3 ≤ pW_i ∧ pW_i ≤ 9)) := Or.inr ⟨rfl, by omega⟩
      exact W.zret (v := 0) hx hb hr rfl (fun t ht hW => ⟨⟨0, 0, rfl, rfl, hf9_0, by rw [ht]; exact hP9, va_K.moved hW.alike hK, hD9⟩, hS.F ht⟩) hS.2.2 dX6_shape_37
    ·
      have c_2 : ¬ ((1:Int) ≤ pK_i) := zz_len (by decide) pK_h c_2
      refine lv_iload_n hx hb dX6_shape_12 rfl (lv_at hl 2 rfl) ?_
      refine lv_bipush (v := (-5)) hx hb dX6_shape_13 (by decide) ?_
      refine lv_icmp_lt (tgt := 36) hx hb dX6_shape_15 (by decide) (fun c_3 => ?_) (fun c_3 => ?_)
      ·
        have c_3 : pR_i < (-5:Int) := zz_lt pR_h (by decide) c_3
        refine lv_iconst (v := 0) hx hb dX6_shape_36 (by decide) ?_
        have hP9 := hP.sub (ws' := []) [] rfl
        have hD9 := hD.sub (ws' := []) [] (by decide) rfl
        refine W.widen (k := 0) (n := 0) (Nat.le_of_ble_eq_true rfl) (Nat.le_of_ble_eq_true rfl) ?_
        have hu9 : (0 : Int32).toInt = (0:Int) := (by decide)
        have hf9_0 : ((0 : Int32) = 1 ∧ (pK_i = 0 ∧ -5 ≤ pR_i ∧ pR_i ≤ 10 ∧ -3 ≤ pW_i ∧ pW_i ≤ 9)) ∨ ((0 : Int32) = 0 ∧ ¬ (pK_i = 0 ∧ -5 ≤ pR_i ∧ pR_i ≤ 10 ∧ -3 ≤ pW_i ∧ pW_i ≤ 9)) := Or.inr ⟨rfl, by omega⟩
        exact W.zret (v := 0) hx hb hr rfl (fun t ht hW => ⟨⟨0, 0, rfl, rfl, hf9_0, by rw [ht]; exact hP9, va_K.moved hW.alike hK, hD9⟩, hS.F ht⟩) hS.2.2 dX6_shape_37
      ·
        have c_3 : ¬ (pR_i < (-5:Int)) := zz_ltn pR_h (by decide) c_3
        refine lv_iload_n hx hb dX6_shape_18 rfl (lv_at hl 2 rfl) ?_
        refine lv_bipush (v := 10) hx hb dX6_shape_19 (by decide) ?_
        refine lv_icmp_gt (tgt := 36) hx hb dX6_shape_21 (by decide) (fun c_4 => ?_) (fun c_4 => ?_)
        ·
          have c_4 : (10:Int) < pR_i := zz_lt (by decide) pR_h c_4
          refine lv_iconst (v := 0) hx hb dX6_shape_36 (by decide) ?_
          have hP9 := hP.sub (ws' := []) [] rfl
          have hD9 := hD.sub (ws' := []) [] (by decide) rfl
          refine W.widen (k := 0) (n := 0) (Nat.le_of_ble_eq_true rfl) (Nat.le_of_ble_eq_true rfl) ?_
          have hu9 : (0 : Int32).toInt = (0:Int) := (by decide)
          have hf9_0 : ((0 : Int32) = 1 ∧ (pK_i = 0 ∧ -5 ≤ pR_i ∧ pR_i ≤ 10 ∧ -3 ≤ pW_i ∧ pW_i ≤ 9)) ∨ ((0 : Int32) = 0 ∧ ¬ (pK_i = 0 ∧ -5 ≤ pR_i ∧ pR_i ≤ 10 ∧ -3 ≤ pW_i ∧ pW_i ≤ 9)) := Or.inr ⟨rfl, by omega⟩
          exact W.zret (v := 0) hx hb hr rfl (fun t ht hW => ⟨⟨0, 0, rfl, rfl, hf9_0, by rw [ht]; exact hP9, va_K.moved hW.alike hK, hD9⟩, hS.F ht⟩) hS.2.2 dX6_shape_37
        ·
          have c_4 : ¬ ((10:Int) < pR_i) := zz_ltn (by decide) pR_h c_4
          refine lv_iload_n hx hb dX6_shape_24 rfl (lv_at hl 3 rfl) ?_
          refine lv_bipush (v := (-3)) hx hb dX6_shape_25 (by decide) ?_
          refine lv_icmp_lt (tgt := 36) hx hb dX6_shape_27 (by decide) (fun c_5 => ?_) (fun c_5 => ?_)
          ·
            have c_5 : pW_i < (-3:Int) := zz_lt pW_h (by decide) c_5
            refine lv_iconst (v := 0) hx hb dX6_shape_36 (by decide) ?_
            have hP9 := hP.sub (ws' := []) [] rfl
            have hD9 := hD.sub (ws' := []) [] (by decide) rfl
            refine W.widen (k := 0) (n := 0) (Nat.le_of_ble_eq_true rfl) (Nat.le_of_ble_eq_true rfl) ?_
            have hu9 : (0 : Int32).toInt = (0:Int) := (by decide)
            have hf9_0 : ((0 : Int32) = 1 ∧ (pK_i = 0 ∧ -5 ≤ pR_i ∧ pR_i ≤ 10 ∧ -3 ≤ pW_i ∧ pW_i ≤ 9)) ∨ ((0 : Int32) = 0 ∧ ¬ (pK_i = 0 ∧ -5 ≤ pR_i ∧ pR_i ≤ 10 ∧ -3 ≤ pW_i ∧ pW_i ≤ 9)) := Or.inr ⟨rfl, by omega⟩
            exact W.zret (v := 0) hx hb hr rfl (fun t ht hW => ⟨⟨0, 0, rfl, rfl, hf9_0, by rw [ht]; exact hP9, va_K.moved hW.alike hK, hD9⟩, hS.F ht⟩) hS.2.2 dX6_shape_37
          ·
            have c_5 : ¬ (pW_i < (-3:Int)) := zz_ltn pW_h (by decide) c_5
            refine lv_iload_n hx hb dX6_shape_30 rfl (lv_at hl 3 rfl) ?_
            refine lv_bipush (v := 9) hx hb dX6_shape_31 (by decide) ?_
            refine lv_icmp_le (tgt := 38) hx hb dX6_shape_33 (by decide) (fun c_6 => ?_) (fun c_6 => ?_)
            ·
              have c_6 : pW_i ≤ (9:Int) := zz_le pW_h (by decide) c_6
              refine lv_aload_n hx hb dX6_shape_38 rfl (lv_at hl 0 rfl) ?_
              refine va_get (D := (dC, dI)) (ci := 6) (v := .ref x_rises) (C := RX6) (T := TX6) (N := 7) hx hb hts hiX6 hown hK hP 0 rfl rfl 1 (by decide) hw1 (fun _ h9 => h9) rfl dX6_shape_39 ?_
              refine lv_iload_n hx hb dX6_shape_42 rfl (lv_at hl 1 rfl) ?_
              refine lv_iload_n hx hb dX6_shape_43 rfl (lv_at hl 2 rfl) ?_
              refine va_iast hx hb hK hP hD hS 1 0 rfl rfl (zz_in pK_h (by omega) (by omega)) dX6_shape_44 (fun H locs hP hD hS => ?_)
              have hP : va_P (dC, dI) vwCl [(h0, .inr (6, [.int 1, .ref x_rises, .ref x_winds, .int 0, .ref x_primeMetres, .int 0, .int 0])), (x_rises, .inl (cI, 30, .inl (upd (fun _ => 0) (Int32.toNatClampNeg pK) pR))), (x_winds, .inl (cI, 30, .inl (fun _ => 0))), (x_primeMetres, .inl (cI, 5, .inl (fun _ => 0)))] H := hP
              have hD : va_D A [(h0, .inr (6, [.int 1, .ref x_rises, .ref x_winds, .int 0, .ref x_primeMetres, .int 0, .int 0])), (x_rises, .inl (cI, 30, .inl (upd (fun _ => 0) (Int32.toNatClampNeg pK) pR))), (x_winds, .inl (cI, 30, .inl (fun _ => 0))), (x_primeMetres, .inl (cI, 5, .inl (fun _ => 0)))] := hD
              refine lv_aload_n hx hb dX6_shape_45 rfl (lv_at hl 0 rfl) ?_
              refine va_get (D := (dC, dI)) (ci := 6) (v := .ref x_winds) (C := RX6) (T := TX6) (N := 7) hx hb hts hiX6 hown hK hP 0 rfl rfl 2 (by decide) hw2 (fun _ h9 => h9) rfl dX6_shape_46 ?_
              refine lv_iload_n hx hb dX6_shape_49 rfl (lv_at hl 1 rfl) ?_
              refine lv_iload_n hx hb dX6_shape_50 rfl (lv_at hl 3 rfl) ?_
              refine va_iast hx hb hK hP hD hS 2 0 rfl rfl (zz_in pK_h (by omega) (by omega)) dX6_shape_51 (fun H locs hP hD hS => ?_)
              have hP : va_P (dC, dI) vwCl [(h0, .inr (6, [.int 1, .ref x_rises, .ref x_winds, .int 0, .ref x_primeMetres, .int 0, .int 0])), (x_rises, .inl (cI, 30, .inl (upd (fun _ => 0) (Int32.toNatClampNeg pK) pR))), (x_winds, .inl (cI, 30, .inl (upd (fun _ => 0) (Int32.toNatClampNeg pK) pW))), (x_primeMetres, .inl (cI, 5, .inl (fun _ => 0)))] H := hP
              have hD : va_D A [(h0, .inr (6, [.int 1, .ref x_rises, .ref x_winds, .int 0, .ref x_primeMetres, .int 0, .int 0])), (x_rises, .inl (cI, 30, .inl (upd (fun _ => 0) (Int32.toNatClampNeg pK) pR))), (x_winds, .inl (cI, 30, .inl (upd (fun _ => 0) (Int32.toNatClampNeg pK) pW))), (x_primeMetres, .inl (cI, 5, .inl (fun _ => 0)))] := hD
              refine lv_iconst (v := 1) hx hb dX6_shape_52 (by decide) ?_
              have hP9 := hP.sub (ws' := []) [] rfl
              have hD9 := hD.sub (ws' := []) [] (by decide) rfl
              refine W.widen (k := 0) (n := 0) (Nat.le_of_ble_eq_true rfl) (Nat.le_of_ble_eq_true rfl) ?_
              have hu9 : (1 : Int32).toInt = (1:Int) := (by decide)
              have hf9_0 : ((1 : Int32) = 1 ∧ (pK_i = 0 ∧ -5 ≤ pR_i ∧ pR_i ≤ 10 ∧ -3 ≤ pW_i ∧ pW_i ≤ 9)) ∨ ((1 : Int32) = 0 ∧ ¬ (pK_i = 0 ∧ -5 ≤ pR_i ∧ pR_i ≤ 10 ∧ -3 ≤ pW_i ∧ pW_i ≤ 9)) := Or.inl ⟨rfl, by omega⟩
              exact W.zret (v := 1) hx hb hr rfl (fun t ht hW => ⟨⟨1, 1, rfl, rfl, hf9_0, by rw [ht]; exact hP9, va_K.moved hW.alike hK, hD9⟩, hS.F ht⟩) hS.2.2 dX6_shape_53
            ·
              have c_6 : ¬ (pW_i ≤ (9:Int)) := zz_len pW_h (by decide) c_6
              refine lv_iconst (v := 0) hx hb dX6_shape_36 (by decide) ?_
              have hP9 := hP.sub (ws' := []) [] rfl
              have hD9 := hD.sub (ws' := []) [] (by decide) rfl
              refine W.widen (k := 0) (n := 0) (Nat.le_of_ble_eq_true rfl) (Nat.le_of_ble_eq_true rfl) ?_
              have hu9 : (0 : Int32).toInt = (0:Int) := (by decide)
              have hf9_0 : ((0 : Int32) = 1 ∧ (pK_i = 0 ∧ -5 ≤ pR_i ∧ pR_i ≤ 10 ∧ -3 ≤ pW_i ∧ pW_i ≤ 9)) ∨ ((0 : Int32) = 0 ∧ ¬ (pK_i = 0 ∧ -5 ≤ pR_i ∧ pR_i ≤ 10 ∧ -3 ≤ pW_i ∧ pW_i ≤ 9)) := Or.inr ⟨rfl, by omega⟩
              exact W.zret (v := 0) hx hb hr rfl (fun t ht hW => ⟨⟨0, 0, rfl, rfl, hf9_0, by rw [ht]; exact hP9, va_K.moved hW.alike hK, hD9⟩, hS.F ht⟩) hS.2.2 dX6_shape_37

set_option maxHeartbeats 4000000 in
set_option maxRecDepth 100000 in
theorem c_X9_rise (l : Launch) (dC : Nat → ClassId) (dI : Nat → Nat → Nat) (cI cZ : ClassId) (sz : Nat) (h0 : Nat) (x_riders : Nat) (x_road : Nat) (x_tape : Nat) (x_book : Nat) (x_reader : Nat) (x_latest : Nat) (x_log : Nat) (x_trial : Nat) (x_stages : Nat) (x_ro_rises : Nat) (x_ro_winds : Nat) (x_ro_primeMetres : Nat) (pK : Int32) (pK_i : Int) (pK_h : pK.toInt = pK_i) (pR : Int32) (pR_i : Int) (pR_h : pR.toInt = pR_i) (pW : Int32) (pW_i : Int) (pW_h : pW.toInt = pW_i) : Met l yX9_rise (Cond.code yX9_rise cX9_rise 4 (some .boolean) :: lw_good) ({ frames := 1, cells := 0, slots := 0, locals := 23 }) (va_Pc [.ref h0, .int pK, .int pR, .int pW] (fun U => U.heap.size = sz ∧ va_P (dC, dI) vwCl [(h0, .inr (9, [.ref x_riders, .ref x_road, .ref x_tape, .ref x_book, .ref x_reader, .ref x_latest, .ref x_log, .ref x_trial, .ref x_stages, .int 0, .int 0, .int 0])), (x_road, .inr (6, [.int 1, .ref x_ro_rises, .ref x_ro_winds, .int 0, .ref x_ro_primeMetres, .int 0, .int 0])), (x_ro_rises, .inl (cI, 30, .inl (fun _ => 0))), (x_ro_winds, .inl (cI, 30, .inl (fun _ => 0))), (x_ro_primeMetres, .inl (cI, 5, .inl (fun _ => 0)))] U.heap ∧ va_K (dC, dI) vwCl [(cI, .int), (cZ, .boolean)] U ∧ va_D (fun _ => True) [(h0, .inr (9, [.ref x_riders, .ref x_road, .ref x_tape, .ref x_book, .ref x_reader, .ref x_latest, .ref x_log, .ref x_trial, .ref x_stages, .int 0, .int 0, .int 0])), (x_road, .inr (6, [.int 1, .ref x_ro_rises, .ref x_ro_winds, .int 0, .ref x_ro_primeMetres, .int 0, .int 0])), (x_ro_rises, .inl (cI, 30, .inl (fun _ => 0))), (x_ro_winds, .inl (cI, 30, .inl (fun _ => 0))), (x_ro_primeMetres, .inl (cI, 5, .inl (fun _ => 0)))])) (va_Qi (fun (r u : Int32) => r = u) (fun u t => ((u = 1 ∧ (pK_i = 0 ∧ -5 ≤ pR_i ∧ pR_i ≤ 10 ∧ -3 ≤ pW_i ∧ pW_i ≤ 9)) ∨ (u = 0 ∧ ¬ (pK_i = 0 ∧ -5 ≤ pR_i ∧ pR_i ≤ 10 ∧ -3 ≤ pW_i ∧ pW_i ≤ 9))) ∧ va_P (dC, dI) vwCl [] t.heap ∧ va_K (dC, dI) vwCl [(cI, .int), (cZ, .boolean)] t ∧ va_D (va_A [(h0, .inr (9, [.ref x_riders, .ref x_road, .ref x_tape, .ref x_book, .ref x_reader, .ref x_latest, .ref x_log, .ref x_trial, .ref x_stages, .int 0, .int 0, .int 0])), (x_road, .inr (6, [.int 1, .ref x_ro_rises, .ref x_ro_winds, .int 0, .ref x_ro_primeMetres, .int 0, .int 0])), (x_ro_rises, .inl (cI, 30, .inl (fun _ => 0))), (x_ro_winds, .inl (cI, 30, .inl (fun _ => 0))), (x_ro_primeMetres, .inl (cI, 5, .inl (fun _ => 0)))] sz) []) (va_A [(h0, .inr (9, [.ref x_riders, .ref x_road, .ref x_tape, .ref x_book, .ref x_reader, .ref x_latest, .ref x_log, .ref x_trial, .ref x_stages, .int 0, .int 0, .int 0])), (x_road, .inr (6, [.int 1, .ref x_ro_rises, .ref x_ro_winds, .int 0, .ref x_ro_primeMetres, .int 0, .int 0])), (x_ro_rises, .inl (cI, 30, .inl (fun _ => 0))), (x_ro_winds, .inl (cI, 30, .inl (fun _ => 0))), (x_ro_primeMetres, .inl (cI, 5, .inl (fun _ => 0)))] sz)) 0 0 (va_A [(h0, .inr (9, [.ref x_riders, .ref x_road, .ref x_tape, .ref x_book, .ref x_reader, .ref x_latest, .ref x_log, .ref x_trial, .ref x_stages, .int 0, .int 0, .int 0])), (x_road, .inr (6, [.int 1, .ref x_ro_rises, .ref x_ro_winds, .int 0, .ref x_ro_primeMetres, .int 0, .int 0])), (x_ro_rises, .inl (cI, 30, .inl (fun _ => 0))), (x_ro_winds, .inl (cI, 30, .inl (fun _ => 0))), (x_ro_primeMetres, .inl (cI, 5, .inl (fun _ => 0)))] sz) := by
  refine Met.ofW (cc := cX9_rise) (maxL := 4) (ret := (some .boolean)) (by decide) rfl ?_
  intro p e s m args below meth c s₁ B hml hv
  obtain ⟨rfl, hsz, hP, hK, hD0⟩ := hv
  have hx := B.exec
  have hb := B.bytes
  have hr := B.returns
  have hts := atoms_spec (ws := Cond.code yX9_rise cX9_rise 4 (some .boolean) :: lw_good) B.pre
  have hown : s.vm.findClass RX9 = some m.cls := findClass_of_methodNamed B.named
  have hlocks := B.notSynchronized
  have hiX9 : ∀ w ∈ wsX90, w ∈ (Cond.code yX9_rise cX9_rise 4 (some .boolean) :: lw_good) := fun w h => List.mem_cons_of_mem _ (zi_X9 w h)
  have hw0 := hts (.fieldLink RX9 19 "BunchRace" "road" "LBunchRace$Road;") (List.mem_cons_of_mem _ zw_335)
  have hw1 := hts (.initialized RX6) (List.mem_cons_of_mem _ zw_50)
  have hw2 := hts (.methodLink RX9 90 yX6_shape) (List.mem_cons_of_mem _ zw_394)
  have hw3 := hts (.instanceMethod yX6_shape) (List.mem_cons_of_mem _ zw_395)
  have hw4 := hts (.selects RX6 yX6_shape yX6_shape) (List.mem_cons_of_mem _ zw_396)
  subst hsz
  have hD := hD0.self (sz := s.heap.size)
  generalize hAe : va_A [(h0, .inr (9, [.ref x_riders, .ref x_road, .ref x_tape, .ref x_book, .ref x_reader, .ref x_latest, .ref x_log, .ref x_trial, .ref x_stages, .int 0, .int 0, .int 0])), (x_road, .inr (6, [.int 1, .ref x_ro_rises, .ref x_ro_winds, .int 0, .ref x_ro_primeMetres, .int 0, .int 0])), (x_ro_rises, .inl (cI, 30, .inl (fun _ => 0))), (x_ro_winds, .inl (cI, 30, .inl (fun _ => 0))), (x_ro_primeMetres, .inl (cI, 5, .inl (fun _ => 0)))] s.heap.size = A at hD ⊢
  have hA : ∀ q : Nat, s.heap.size ≤ q → A q := fun q h => by rw [← hAe]; exact Or.inr h
  have hS : va_S A s.heap s.heap [] := va_S.rf
  have hP : va_P (dC, dI) vwCl [(h0, .inr (9, [.ref x_riders, .ref x_road, .ref x_tape, .ref x_book, .ref x_reader, .ref x_latest, .ref x_log, .ref x_trial, .ref x_stages, .int 0, .int 0, .int 0])), (x_road, .inr (6, [.int 1, .ref x_ro_rises, .ref x_ro_winds, .int 0, .ref x_ro_primeMetres, .int 0, .int 0])), (x_ro_rises, .inl (cI, 30, .inl (fun _ => 0))), (x_ro_winds, .inl (cI, 30, .inl (fun _ => 0))), (x_ro_primeMetres, .inl (cI, 5, .inl (fun _ => 0)))] s.heap := hP
  have hl := lv_entry ([.ref h0, .int pK, .int pR, .int pW]) (n := 4) (Nat.le_of_ble_eq_true rfl)
  rw [lg_entry_eq]
  generalize (lg_sl ([.ref h0, .int pK, .int pR, .int pW]) ++ List.replicate (4 - (lg_sl ([.ref h0, .int pK, .int pR, .int pW])).length) Slot.unset).toArray = ls at hl ⊢
  have hl : lv_has ls 4 [(0, .ref h0), (1, .int pK), (2, .int pR), (3, .int pW)] := hl
  refine lv_aload_n hx hb dX9_rise_0 rfl (lv_at hl 0 rfl) ?_
  refine va_get (D := (dC, dI)) (ci := 9) (v := .ref x_road) (C := RX9) (T := TX9) (N := 12) hx hb hts hiX9 hown hK hP 0 rfl rfl 1 (by decide) hw0 (fun _ h9 => h9) rfl dX9_rise_1 ?_
  refine lv_iload_n hx hb dX9_rise_4 rfl (lv_at hl 1 rfl) ?_
  refine lv_iload_n hx hb dX9_rise_5 rfl (lv_at hl 2 rfl) ?_
  refine lv_iload_n hx hb dX9_rise_6 rfl (lv_at hl 3 rfl) ?_
  have hPc := hP.sub (ws' := [(x_road, .inr (6, [.int 1, .ref x_ro_rises, .ref x_ro_winds, .int 0, .ref x_ro_primeMetres, .int 0, .int 0])), (x_ro_rises, .inl (cI, 30, .inl (fun _ => 0))), (x_ro_winds, .inl (cI, 30, .inl (fun _ => 0))), (x_ro_primeMetres, .inl (cI, 5, .inl (fun _ => 0)))]) [1, 2, 3, 4] rfl
  have hDc := hD.sub (ws' := [(x_road, .inr (6, [.int 1, .ref x_ro_rises, .ref x_ro_winds, .int 0, .ref x_ro_primeMetres, .int 0, .int 0])), (x_ro_rises, .inl (cI, 30, .inl (fun _ => 0))), (x_ro_winds, .inl (cI, 30, .inl (fun _ => 0))), (x_ro_primeMetres, .inl (cI, 5, .inl (fun _ => 0)))]) [1, 2, 3, 4] (by decide) rfl
  have hFc := va_free (wc := [(x_road, .inr (6, [.int 1, .ref x_ro_rises, .ref x_ro_winds, .int 0, .ref x_ro_primeMetres, .int 0, .int 0])), (x_ro_rises, .inl (cI, 30, .inl (fun _ => 0))), (x_ro_winds, .inl (cI, 30, .inl (fun _ => 0))), (x_ro_primeMetres, .inl (cI, 5, .inl (fun _ => 0)))]) hD hS hA [1, 2, 3, 4] rfl
  refine va_calli (va_runV (As := [.int pK, .int pR, .int pW]) (rest := []) ⟨hx, hb, hml, hown, hts⟩ (c_X6_shape l dC dI cI cZ (s.heap).size x_road x_ro_rises x_ro_winds x_ro_primeMetres pK pK_i pK_h pR pR_i pR_h pW pW_i pW_h) ⟨callB_of 3 hts (zz_good zw_397) rfl rfl rfl hw1 hw2 (by decide +kernel) ⟨Nat.le_of_ble_eq_true rfl, Nat.le_of_ble_eq_true rfl⟩, hw3, hw4⟩ ⟨fun a U g mk q => by obtain ⟨q0, q1, qP, qK, qD⟩ := q; exact ⟨q0, q1, qP, va_K.moved (u := U) (U := U.calling g mk a) (Vm.Alike.refl U.vm) qK, qD⟩, va_recv hK hPc (ci := 6) (q0 := 0) rfl rfl, fun U hU hW => ⟨rfl, by rw [hU], by rw [hU]; exact hPc, va_K.moved hW.alike hK, hDc.weaken (fun _ _ _ _ => trivial)⟩⟩ rfl rfl hl.1 rfl (lv_room (Nat.le_of_ble_eq_true rfl)) dX9_rise_7 ⟨Nat.le_of_ble_eq_true rfl, Nat.le_of_ble_eq_true rfl⟩) hS (fun q _ h => hFc q h) hFc (fun r_1 u t H1 locs ht hvm hpost hB hz1 hk1 hS => ?_)
  subst hpost
  obtain ⟨hf_2, hP1, hK1, hD1⟩ := hB
  rw [ht] at hP1
  obtain ⟨hP, hD⟩ := va_join (wr := [(h0, .inr (9, [.ref x_riders, .ref x_road, .ref x_tape, .ref x_book, .ref x_reader, .ref x_latest, .ref x_log, .ref x_trial, .ref x_stages, .int 0, .int 0, .int 0]))]) (w1 := []) hP hD [1, 2, 3, 4] [0] rfl rfl (by decide) (by decide) hk1 hFc hP1 hD1
  generalize H1 = H at hP hS ⊢
  have hP : va_P (dC, dI) vwCl [(h0, .inr (9, [.ref x_riders, .ref x_road, .ref x_tape, .ref x_book, .ref x_reader, .ref x_latest, .ref x_log, .ref x_trial, .ref x_stages, .int 0, .int 0, .int 0]))] H := hP
  have hD : va_D A [(h0, .inr (9, [.ref x_riders, .ref x_road, .ref x_tape, .ref x_book, .ref x_reader, .ref x_latest, .ref x_log, .ref x_trial, .ref x_stages, .int 0, .int 0, .int 0]))] := hD
  have hf_2 : (r_1 = 1 ∧ (pK_i = 0 ∧ -5 ≤ pR_i ∧ pR_i ≤ 10 ∧ -3 ≤ pW_i ∧ pW_i ≤ 9)) ∨ (r_1 = 0 ∧ ¬ (pK_i = 0 ∧ -5 ≤ pR_i ∧ pR_i ≤ 10 ∧ -3 ≤ pW_i ∧ pW_i ≤ 9)) := hf_2
  rcases hf_2 with ⟨rfl, hf_2⟩ | ⟨rfl, hf_2⟩
  ·
    have hP9 := hP.sub (ws' := []) [] rfl
    have hD9 := hD.sub (ws' := []) [] (by decide) rfl
    refine W.widen (k := 0) (n := 0) (Nat.le_of_ble_eq_true rfl) (Nat.le_of_ble_eq_true rfl) ?_
    have hu9 : (1 : Int32).toInt = (1:Int) := (by decide)
    have hf9_0 : ((1 : Int32) = 1 ∧ (pK_i = 0 ∧ -5 ≤ pR_i ∧ pR_i ≤ 10 ∧ -3 ≤ pW_i ∧ pW_i ≤ 9)) ∨ ((1 : Int32) = 0 ∧ ¬ (pK_i = 0 ∧ -5 ≤ pR_i ∧ pR_i ≤ 10 ∧ -3 ≤ pW_i ∧ pW_i ≤ 9)) := Or.inl ⟨rfl, by omega⟩
    exact W.zret (v := 1) hx hb hr rfl (fun t ht hW => ⟨⟨1, 1, rfl, rfl, hf9_0, by rw [ht]; exact hP9, va_K.moved hW.alike hK, hD9⟩, hS.F ht⟩) hS.2.2 dX9_rise_10
  ·
    have hP9 := hP.sub (ws' := []) [] rfl
    have hD9 := hD.sub (ws' := []) [] (by decide) rfl
    refine W.widen (k := 0) (n := 0) (Nat.le_of_ble_eq_true rfl) (Nat.le_of_ble_eq_true rfl) ?_
    have hu9 : (0 : Int32).toInt = (0:Int) := (by decide)
    have hf9_0 : ((0 : Int32) = 1 ∧ (pK_i = 0 ∧ -5 ≤ pR_i ∧ pR_i ≤ 10 ∧ -3 ≤ pW_i ∧ pW_i ≤ 9)) ∨ ((0 : Int32) = 0 ∧ ¬ (pK_i = 0 ∧ -5 ≤ pR_i ∧ pR_i ≤ 10 ∧ -3 ≤ pW_i ∧ pW_i ≤ 9)) := Or.inr ⟨rfl, by omega⟩
    exact W.zret (v := 0) hx hb hr rfl (fun t ht hW => ⟨⟨0, 0, rfl, rfl, hf9_0, by rw [ht]; exact hP9, va_K.moved hW.alike hK, hD9⟩, hS.F ht⟩) hS.2.2 dX9_rise_10

set_option maxHeartbeats 4000000 in
set_option maxRecDepth 100000 in
theorem c_X6_length (l : Launch) (dC : Nat → ClassId) (dI : Nat → Nat → Nat) (cI cZ : ClassId) (sz : Nat) (h0 : Nat) (x_rises : Nat) (x_winds : Nat) (x_primeMetres : Nat) : Met l yX6_length (Cond.code yX6_length cX6_length 1 (some .int) :: lw_good) ({ frames := 0, cells := 0, slots := 0, locals := 0 }) (va_Pc [.ref h0] (fun U => U.heap.size = sz ∧ va_P (dC, dI) vwCl [(h0, .inr (6, [.int 1, .ref x_rises, .ref x_winds, .int 0, .ref x_primeMetres, .int 0, .int 0]))] U.heap ∧ va_K (dC, dI) vwCl [(cI, .int), (cZ, .boolean)] U ∧ va_D (fun _ => True) [(h0, .inr (6, [.int 1, .ref x_rises, .ref x_winds, .int 0, .ref x_primeMetres, .int 0, .int 0]))])) (va_Qi (fun (r u : Int32) => r = u) (fun u t => (u.toInt = 1000) ∧ va_P (dC, dI) vwCl [(h0, .inr (6, [.int 1, .ref x_rises, .ref x_winds, .int 0, .ref x_primeMetres, .int 0, .int 0]))] t.heap ∧ va_K (dC, dI) vwCl [(cI, .int), (cZ, .boolean)] t ∧ va_D (va_A [(h0, .inr (6, [.int 1, .ref x_rises, .ref x_winds, .int 0, .ref x_primeMetres, .int 0, .int 0]))] sz) [(h0, .inr (6, [.int 1, .ref x_rises, .ref x_winds, .int 0, .ref x_primeMetres, .int 0, .int 0]))]) (va_A [(h0, .inr (6, [.int 1, .ref x_rises, .ref x_winds, .int 0, .ref x_primeMetres, .int 0, .int 0]))] sz)) 0 0 (va_A [(h0, .inr (6, [.int 1, .ref x_rises, .ref x_winds, .int 0, .ref x_primeMetres, .int 0, .int 0]))] sz) := by
  refine Met.ofW (cc := cX6_length) (maxL := 1) (ret := (some .int)) (by decide) rfl ?_
  intro p e s m args below meth c s₁ B hml hv
  obtain ⟨rfl, hsz, hP, hK, hD0⟩ := hv
  have hx := B.exec
  have hb := B.bytes
  have hr := B.returns
  have hts := atoms_spec (ws := Cond.code yX6_length cX6_length 1 (some .int) :: lw_good) B.pre
  have hown : s.vm.findClass RX6 = some m.cls := findClass_of_methodNamed B.named
  have hlocks := B.notSynchronized
  have hiX6 : ∀ w ∈ wsX60, w ∈ (Cond.code yX6_length cX6_length 1 (some .int) :: lw_good) := fun w h => List.mem_cons_of_mem _ (zi_X6 w h)
  have hw0 := hts (.fieldLink RX6 9 "BunchRace$Road" "kilometres" "I") (List.mem_cons_of_mem _ zw_105)
  subst hsz
  have hD := hD0.self (sz := s.heap.size)
  generalize hAe : va_A [(h0, .inr (6, [.int 1, .ref x_rises, .ref x_winds, .int 0, .ref x_primeMetres, .int 0, .int 0]))] s.heap.size = A at hD ⊢
  have hA : ∀ q : Nat, s.heap.size ≤ q → A q := fun q h => by rw [← hAe]; exact Or.inr h
  have hS : va_S A s.heap s.heap [] := va_S.rf
  have hP : va_P (dC, dI) vwCl [(h0, .inr (6, [.int 1, .ref x_rises, .ref x_winds, .int 0, .ref x_primeMetres, .int 0, .int 0]))] s.heap := hP
  have hl := lv_entry ([.ref h0]) (n := 1) (Nat.le_of_ble_eq_true rfl)
  rw [lg_entry_eq]
  generalize (lg_sl ([.ref h0]) ++ List.replicate (1 - (lg_sl ([.ref h0])).length) Slot.unset).toArray = ls at hl ⊢
  have hl : lv_has ls 1 [(0, .ref h0)] := hl
  refine lv_aload_n hx hb dX6_length_0 rfl (lv_at hl 0 rfl) ?_
  refine va_get (D := (dC, dI)) (ci := 6) (v := .int 1) (C := RX6) (T := TX6) (N := 7) hx hb hts hiX6 hown hK hP 0 rfl rfl 0 (by decide) hw0 (fun _ h9 => h9) rfl dX6_length_1 ?_
  refine lv_sipush (v := 1000) hx hb dX6_length_4 (by decide) ?_
  refine lv_imul hx hb dX6_length_7 ?_
  refine lv_topi (fun v_1 ev_1 => ?_)
  obtain rfl : v_1 = 1000 := ev_1.trans (by decide)
  have hP9 := hP.sub (ws' := [(h0, .inr (6, [.int 1, .ref x_rises, .ref x_winds, .int 0, .ref x_primeMetres, .int 0, .int 0]))]) [0] rfl
  have hD9 := hD.sub (ws' := [(h0, .inr (6, [.int 1, .ref x_rises, .ref x_winds, .int 0, .ref x_primeMetres, .int 0, .int 0]))]) [0] (by decide) rfl
  refine W.widen (k := 0) (n := 0) (Nat.le_of_ble_eq_true rfl) (Nat.le_of_ble_eq_true rfl) ?_
  have hu9 : (1000 : Int32).toInt = (1000:Int) := (by decide)
  have hf9_0 : (1000 : Int32).toInt = 1000 := by omega
  exact W.iret (v := 1000) hx hb hr (fun t ht hW => ⟨⟨1000, 1000, rfl, rfl, hf9_0, by rw [ht]; exact hP9, va_K.moved hW.alike hK, hD9⟩, hS.F ht⟩) hS.2.2 dX6_length_8

set_option maxHeartbeats 4000000 in
set_option maxRecDepth 100000 in
theorem c_X6_isBetweenEnds (l : Launch) (dC : Nat → ClassId) (dI : Nat → Nat → Nat) (cI cZ : ClassId) (sz : Nat) (h0 : Nat) (x_rises : Nat) (x_winds : Nat) (x_primeMetres : Nat) (pM : Int32) (pM_i : Int) (pM_h : pM.toInt = pM_i) : Met l yX6_isBetweenEnds (Cond.code yX6_isBetweenEnds cX6_isBetweenEnds 2 (some .boolean) :: lw_good) ({ frames := 1, cells := 0, slots := 0, locals := 20 }) (va_Pc [.ref h0, .int pM] (fun U => U.heap.size = sz ∧ va_P (dC, dI) vwCl [(h0, .inr (6, [.int 1, .ref x_rises, .ref x_winds, .int 0, .ref x_primeMetres, .int 0, .int 0]))] U.heap ∧ va_K (dC, dI) vwCl [(cI, .int), (cZ, .boolean)] U ∧ va_D (fun _ => True) [(h0, .inr (6, [.int 1, .ref x_rises, .ref x_winds, .int 0, .ref x_primeMetres, .int 0, .int 0]))])) (va_Qi (fun (r u : Int32) => r = u) (fun u t => ((u = 1 ∧ (1 ≤ pM_i ∧ pM_i ≤ 999)) ∨ (u = 0 ∧ ¬ (1 ≤ pM_i ∧ pM_i ≤ 999))) ∧ va_P (dC, dI) vwCl [(h0, .inr (6, [.int 1, .ref x_rises, .ref x_winds, .int 0, .ref x_primeMetres, .int 0, .int 0]))] t.heap ∧ va_K (dC, dI) vwCl [(cI, .int), (cZ, .boolean)] t ∧ va_D (va_A [(h0, .inr (6, [.int 1, .ref x_rises, .ref x_winds, .int 0, .ref x_primeMetres, .int 0, .int 0]))] sz) [(h0, .inr (6, [.int 1, .ref x_rises, .ref x_winds, .int 0, .ref x_primeMetres, .int 0, .int 0]))]) (va_A [(h0, .inr (6, [.int 1, .ref x_rises, .ref x_winds, .int 0, .ref x_primeMetres, .int 0, .int 0]))] sz)) 0 0 (va_A [(h0, .inr (6, [.int 1, .ref x_rises, .ref x_winds, .int 0, .ref x_primeMetres, .int 0, .int 0]))] sz) := by
  refine Met.ofW (cc := cX6_isBetweenEnds) (maxL := 2) (ret := (some .boolean)) (by decide) rfl ?_
  intro p e s m args below meth c s₁ B hml hv
  obtain ⟨rfl, hsz, hP, hK, hD0⟩ := hv
  have hx := B.exec
  have hb := B.bytes
  have hr := B.returns
  have hts := atoms_spec (ws := Cond.code yX6_isBetweenEnds cX6_isBetweenEnds 2 (some .boolean) :: lw_good) B.pre
  have hown : s.vm.findClass RX6 = some m.cls := findClass_of_methodNamed B.named
  have hlocks := B.notSynchronized
  have hw0 := hts (.initialized RX6) (List.mem_cons_of_mem _ zw_50)
  have hw1 := hts (.methodLink RX6 34 yX6_length) (List.mem_cons_of_mem _ zw_410)
  have hw2 := hts (.instanceMethod yX6_length) (List.mem_cons_of_mem _ zw_411)
  have hw3 := hts (.selects RX6 yX6_length yX6_length) (List.mem_cons_of_mem _ zw_412)
  subst hsz
  have hD := hD0.self (sz := s.heap.size)
  generalize hAe : va_A [(h0, .inr (6, [.int 1, .ref x_rises, .ref x_winds, .int 0, .ref x_primeMetres, .int 0, .int 0]))] s.heap.size = A at hD ⊢
  have hA : ∀ q : Nat, s.heap.size ≤ q → A q := fun q h => by rw [← hAe]; exact Or.inr h
  have hS : va_S A s.heap s.heap [] := va_S.rf
  have hP : va_P (dC, dI) vwCl [(h0, .inr (6, [.int 1, .ref x_rises, .ref x_winds, .int 0, .ref x_primeMetres, .int 0, .int 0]))] s.heap := hP
  have hl := lv_entry ([.ref h0, .int pM]) (n := 2) (Nat.le_of_ble_eq_true rfl)
  rw [lg_entry_eq]
  generalize (lg_sl ([.ref h0, .int pM]) ++ List.replicate (2 - (lg_sl ([.ref h0, .int pM])).length) Slot.unset).toArray = ls at hl ⊢
  have hl : lv_has ls 2 [(0, .ref h0), (1, .int pM)] := hl
  refine lv_iload_n hx hb dX6_isBetweenEnds_0 rfl (lv_at hl 1 rfl) ?_
  refine lv_iconst (v := 1) hx hb dX6_isBetweenEnds_1 (by decide) ?_
  refine lv_icmp_lt (tgt := 17) hx hb dX6_isBetweenEnds_2 (by decide) (fun c_1 => ?_) (fun c_1 => ?_)
  ·
    have c_1 : pM_i < (1:Int) := zz_lt pM_h (by decide) c_1
    refine lv_iconst (v := 0) hx hb dX6_isBetweenEnds_17 (by decide) ?_
    have hP9 := hP.sub (ws' := [(h0, .inr (6, [.int 1, .ref x_rises, .ref x_winds, .int 0, .ref x_primeMetres, .int 0, .int 0]))]) [0] rfl
    have hD9 := hD.sub (ws' := [(h0, .inr (6, [.int 1, .ref x_rises, .ref x_winds, .int 0, .ref x_primeMetres, .int 0, .int 0]))]) [0] (by decide) rfl
    refine W.widen (k := 0) (n := 0) (Nat.le_of_ble_eq_true rfl) (Nat.le_of_ble_eq_true rfl) ?_
    have hu9 : (0 : Int32).toInt = (0:Int) := (by decide)
    have hf9_0 : ((0 : Int32) = 1 ∧ (1 ≤ pM_i ∧ pM_i ≤ 999)) ∨ ((0 : Int32) = 0 ∧ ¬ (1 ≤ pM_i ∧ pM_i ≤ 999)) := Or.inr ⟨rfl, by omega⟩
    exact W.zret (v := 0) hx hb hr rfl (fun t ht hW => ⟨⟨0, 0, rfl, rfl, hf9_0, by rw [ht]; exact hP9, va_K.moved hW.alike hK, hD9⟩, hS.F ht⟩) hS.2.2 dX6_isBetweenEnds_18
  ·
    have c_1 : ¬ (pM_i < (1:Int)) := zz_ltn pM_h (by decide) c_1
    refine lv_iload_n hx hb dX6_isBetweenEnds_5 rfl (lv_at hl 1 rfl) ?_
    refine lv_aload_n hx hb dX6_isBetweenEnds_6 rfl (lv_at hl 0 rfl) ?_
    have hPc := hP.sub (ws' := [(h0, .inr (6, [.int 1, .ref x_rises, .ref x_winds, .int 0, .ref x_primeMetres, .int 0, .int 0]))]) [0] rfl
    have hDc := hD.sub (ws' := [(h0, .inr (6, [.int 1, .ref x_rises, .ref x_winds, .int 0, .ref x_primeMetres, .int 0, .int 0]))]) [0] (by decide) rfl
    have hFc := va_free (wc := [(h0, .inr (6, [.int 1, .ref x_rises, .ref x_winds, .int 0, .ref x_primeMetres, .int 0, .int 0]))]) hD hS hA [0] rfl
    refine va_calli (va_runV (As := []) (rest := [.int pM]) ⟨hx, hb, hml, hown, hts⟩ (c_X6_length l dC dI cI cZ (s.heap).size h0 x_rises x_winds x_primeMetres) ⟨callB_of 0 hts (zz_good zw_413) rfl rfl rfl hw0 hw1 (by decide +kernel) ⟨Nat.le_of_ble_eq_true rfl, Nat.le_of_ble_eq_true rfl⟩, hw2, hw3⟩ ⟨fun a U g mk q => by obtain ⟨q0, q1, qP, qK, qD⟩ := q; exact ⟨q0, q1, qP, va_K.moved (u := U) (U := U.calling g mk a) (Vm.Alike.refl U.vm) qK, qD⟩, va_recv hK hPc (ci := 6) (q0 := 0) rfl rfl, fun U hU hW => ⟨rfl, by rw [hU], by rw [hU]; exact hPc, va_K.moved hW.alike hK, hDc.weaken (fun _ _ _ _ => trivial)⟩⟩ rfl rfl hl.1 rfl (lv_room (Nat.le_of_ble_eq_true rfl)) dX6_isBetweenEnds_7 ⟨Nat.le_of_ble_eq_true rfl, Nat.le_of_ble_eq_true rfl⟩) hS (fun q _ h => hFc q h) hFc (fun r_2 u t H1 locs ht hvm hpost hB hz1 hk1 hS => ?_)
    subst hpost
    obtain ⟨hf_3, hP1, hK1, hD1⟩ := hB
    rw [ht] at hP1
    obtain ⟨hP, hD⟩ := va_join (wr := []) (w1 := [(h0, .inr (6, [.int 1, .ref x_rises, .ref x_winds, .int 0, .ref x_primeMetres, .int 0, .int 0]))]) hP hD [0] [] rfl rfl (by decide) (by decide) hk1 hFc hP1 hD1
    generalize H1 = H at hP hS ⊢
    have hP : va_P (dC, dI) vwCl [(h0, .inr (6, [.int 1, .ref x_rises, .ref x_winds, .int 0, .ref x_primeMetres, .int 0, .int 0]))] H := hP
    have hD : va_D A [(h0, .inr (6, [.int 1, .ref x_rises, .ref x_winds, .int 0, .ref x_primeMetres, .int 0, .int 0]))] := hD
    have hf_3 : r_2.toInt = 1000 := hf_3
    obtain rfl : r_2 = 1000 := Int32.toInt_inj.mp (hf_3.trans (by decide))
    refine lv_icmp_ge (tgt := 17) hx hb dX6_isBetweenEnds_10 (by decide) (fun c_4 => ?_) (fun c_4 => ?_)
    ·
      have c_4 : (1000:Int) ≤ pM_i := zz_le (by decide) pM_h c_4
      refine lv_iconst (v := 0) hx hb dX6_isBetweenEnds_17 (by decide) ?_
      have hP9 := hP.sub (ws' := [(h0, .inr (6, [.int 1, .ref x_rises, .ref x_winds, .int 0, .ref x_primeMetres, .int 0, .int 0]))]) [0] rfl
      have hD9 := hD.sub (ws' := [(h0, .inr (6, [.int 1, .ref x_rises, .ref x_winds, .int 0, .ref x_primeMetres, .int 0, .int 0]))]) [0] (by decide) rfl
      refine W.widen (k := 0) (n := 0) (Nat.le_of_ble_eq_true rfl) (Nat.le_of_ble_eq_true rfl) ?_
      have hu9 : (0 : Int32).toInt = (0:Int) := (by decide)
      have hf9_0 : ((0 : Int32) = 1 ∧ (1 ≤ pM_i ∧ pM_i ≤ 999)) ∨ ((0 : Int32) = 0 ∧ ¬ (1 ≤ pM_i ∧ pM_i ≤ 999)) := Or.inr ⟨rfl, by omega⟩
      exact W.zret (v := 0) hx hb hr rfl (fun t ht hW => ⟨⟨0, 0, rfl, rfl, hf9_0, by rw [ht]; exact hP9, va_K.moved hW.alike hK, hD9⟩, hS.F ht⟩) hS.2.2 dX6_isBetweenEnds_18
    ·
      have c_4 : ¬ ((1000:Int) ≤ pM_i) := zz_len (by decide) pM_h c_4
      refine lv_iconst (v := 1) hx hb dX6_isBetweenEnds_13 (by decide) ?_
      refine lv_goto (tgt := 18) hx hb dX6_isBetweenEnds_14 (by decide) ?_
      have hP9 := hP.sub (ws' := [(h0, .inr (6, [.int 1, .ref x_rises, .ref x_winds, .int 0, .ref x_primeMetres, .int 0, .int 0]))]) [0] rfl
      have hD9 := hD.sub (ws' := [(h0, .inr (6, [.int 1, .ref x_rises, .ref x_winds, .int 0, .ref x_primeMetres, .int 0, .int 0]))]) [0] (by decide) rfl
      refine W.widen (k := 0) (n := 0) (Nat.le_of_ble_eq_true rfl) (Nat.le_of_ble_eq_true rfl) ?_
      have hu9 : (1 : Int32).toInt = (1:Int) := (by decide)
      have hf9_0 : ((1 : Int32) = 1 ∧ (1 ≤ pM_i ∧ pM_i ≤ 999)) ∨ ((1 : Int32) = 0 ∧ ¬ (1 ≤ pM_i ∧ pM_i ≤ 999)) := Or.inl ⟨rfl, by omega⟩
      exact W.zret (v := 1) hx hb hr rfl (fun t ht hW => ⟨⟨1, 1, rfl, rfl, hf9_0, by rw [ht]; exact hP9, va_K.moved hW.alike hK, hD9⟩, hS.F ht⟩) hS.2.2 dX6_isBetweenEnds_18

set_option maxHeartbeats 4000000 in
set_option maxRecDepth 100000 in
theorem c_X6_addPrime (l : Launch) (dC : Nat → ClassId) (dI : Nat → Nat → Nat) (cI cZ : ClassId) (sz : Nat) (h0 : Nat) (x_rises : Nat) (x_winds : Nat) (x_primeMetres : Nat) (pM : Int32) (pM_i : Int) (pM_h : pM.toInt = pM_i) : Met l yX6_addPrime (Cond.code yX6_addPrime cX6_addPrime 2 (some .int) :: lw_good) ({ frames := 2, cells := 0, slots := 0, locals := 41 }) (va_Pc [.ref h0, .int pM] (fun U => U.heap.size = sz ∧ va_P (dC, dI) vwCl [(h0, .inr (6, [.int 1, .ref x_rises, .ref x_winds, .int 0, .ref x_primeMetres, .int 0, .int 0])), (x_primeMetres, .inl (cI, 5, .inl (fun _ => 0)))] U.heap ∧ va_K (dC, dI) vwCl [(cI, .int), (cZ, .boolean)] U ∧ va_D (fun _ => True) [(h0, .inr (6, [.int 1, .ref x_rises, .ref x_winds, .int 0, .ref x_primeMetres, .int 0, .int 0])), (x_primeMetres, .inl (cI, 5, .inl (fun _ => 0)))])) (va_Qi (fun (r u : Int32) => r = u) (fun u t => (((1 ≤ pM_i ∧ pM_i ≤ 999) ∧ u.toInt = 0) ∨ (¬ (1 ≤ pM_i ∧ pM_i ≤ 999) ∧ u.toInt = -1)) ∧ va_P (dC, dI) vwCl [] t.heap ∧ va_K (dC, dI) vwCl [(cI, .int), (cZ, .boolean)] t ∧ va_D (va_A [(h0, .inr (6, [.int 1, .ref x_rises, .ref x_winds, .int 0, .ref x_primeMetres, .int 0, .int 0])), (x_primeMetres, .inl (cI, 5, .inl (fun _ => 0)))] sz) []) (va_A [(h0, .inr (6, [.int 1, .ref x_rises, .ref x_winds, .int 0, .ref x_primeMetres, .int 0, .int 0])), (x_primeMetres, .inl (cI, 5, .inl (fun _ => 0)))] sz)) 0 0 (va_A [(h0, .inr (6, [.int 1, .ref x_rises, .ref x_winds, .int 0, .ref x_primeMetres, .int 0, .int 0])), (x_primeMetres, .inl (cI, 5, .inl (fun _ => 0)))] sz) := by
  refine Met.ofW (cc := cX6_addPrime) (maxL := 2) (ret := (some .int)) (by decide) rfl ?_
  intro p e s m args below meth c s₁ B hml hv
  obtain ⟨rfl, hsz, hP, hK, hD0⟩ := hv
  have hx := B.exec
  have hb := B.bytes
  have hr := B.returns
  have hts := atoms_spec (ws := Cond.code yX6_addPrime cX6_addPrime 2 (some .int) :: lw_good) B.pre
  have hown : s.vm.findClass RX6 = some m.cls := findClass_of_methodNamed B.named
  have hlocks := B.notSynchronized
  have hiX6 : ∀ w ∈ wsX60, w ∈ (Cond.code yX6_addPrime cX6_addPrime 2 (some .int) :: lw_good) := fun w h => List.mem_cons_of_mem _ (zi_X6 w h)
  have hw0 := hts (.fieldLink RX6 22 "BunchRace$Road" "primes" "I") (List.mem_cons_of_mem _ zw_111)
  have hw1 := hts (.initialized RX6) (List.mem_cons_of_mem _ zw_50)
  have hw2 := hts (.methodLink RX6 38 yX6_isBetweenEnds) (List.mem_cons_of_mem _ zw_406)
  have hw3 := hts (.instanceMethod yX6_isBetweenEnds) (List.mem_cons_of_mem _ zw_407)
  have hw4 := hts (.selects RX6 yX6_isBetweenEnds yX6_isBetweenEnds) (List.mem_cons_of_mem _ zw_408)
  have hw5 := hts (.fieldLink RX6 25 "BunchRace$Road" "primeMetres" "[I") (List.mem_cons_of_mem _ zw_114)
  subst hsz
  have hD := hD0.self (sz := s.heap.size)
  generalize hAe : va_A [(h0, .inr (6, [.int 1, .ref x_rises, .ref x_winds, .int 0, .ref x_primeMetres, .int 0, .int 0])), (x_primeMetres, .inl (cI, 5, .inl (fun _ => 0)))] s.heap.size = A at hD ⊢
  have hA : ∀ q : Nat, s.heap.size ≤ q → A q := fun q h => by rw [← hAe]; exact Or.inr h
  have hS : va_S A s.heap s.heap [] := va_S.rf
  have hP : va_P (dC, dI) vwCl [(h0, .inr (6, [.int 1, .ref x_rises, .ref x_winds, .int 0, .ref x_primeMetres, .int 0, .int 0])), (x_primeMetres, .inl (cI, 5, .inl (fun _ => 0)))] s.heap := hP
  have hl := lv_entry ([.ref h0, .int pM]) (n := 2) (Nat.le_of_ble_eq_true rfl)
  rw [lg_entry_eq]
  generalize (lg_sl ([.ref h0, .int pM]) ++ List.replicate (2 - (lg_sl ([.ref h0, .int pM])).length) Slot.unset).toArray = ls at hl ⊢
  have hl : lv_has ls 2 [(0, .ref h0), (1, .int pM)] := hl
  refine lv_aload_n hx hb dX6_addPrime_0 rfl (lv_at hl 0 rfl) ?_
  refine va_get (D := (dC, dI)) (ci := 6) (v := .int 0) (C := RX6) (T := TX6) (N := 7) hx hb hts hiX6 hown hK hP 0 rfl rfl 3 (by decide) hw0 (fun _ h9 => h9) rfl dX6_addPrime_1 ?_
  refine lv_iconst (v := 5) hx hb dX6_addPrime_4 (by decide) ?_
  refine lv_icmp_ge (tgt := 16) hx hb dX6_addPrime_5 (by decide) (fun c_1 => ?_) (fun c_1 => ?_)
  ·
    exact absurd c_1 (by decide)
  ·
    refine lv_aload_n hx hb dX6_addPrime_8 rfl (lv_at hl 0 rfl) ?_
    refine lv_iload_n hx hb dX6_addPrime_9 rfl (lv_at hl 1 rfl) ?_
    have hPc := hP.sub (ws' := [(h0, .inr (6, [.int 1, .ref x_rises, .ref x_winds, .int 0, .ref x_primeMetres, .int 0, .int 0]))]) [0] rfl
    have hDc := hD.sub (ws' := [(h0, .inr (6, [.int 1, .ref x_rises, .ref x_winds, .int 0, .ref x_primeMetres, .int 0, .int 0]))]) [0] (by decide) rfl
    have hFc := va_free (wc := [(h0, .inr (6, [.int 1, .ref x_rises, .ref x_winds, .int 0, .ref x_primeMetres, .int 0, .int 0]))]) hD hS hA [0] rfl
    refine va_calli (va_runV (As := [.int pM]) (rest := []) ⟨hx, hb, hml, hown, hts⟩ (c_X6_isBetweenEnds l dC dI cI cZ (s.heap).size h0 x_rises x_winds x_primeMetres pM pM_i pM_h) ⟨callB_of 1 hts (zz_good zw_409) rfl rfl rfl hw1 hw2 (by decide +kernel) ⟨Nat.le_of_ble_eq_true rfl, Nat.le_of_ble_eq_true rfl⟩, hw3, hw4⟩ ⟨fun a U g mk q => by obtain ⟨q0, q1, qP, qK, qD⟩ := q; exact ⟨q0, q1, qP, va_K.moved (u := U) (U := U.calling g mk a) (Vm.Alike.refl U.vm) qK, qD⟩, va_recv hK hPc (ci := 6) (q0 := 0) rfl rfl, fun U hU hW => ⟨rfl, by rw [hU], by rw [hU]; exact hPc, va_K.moved hW.alike hK, hDc.weaken (fun _ _ _ _ => trivial)⟩⟩ rfl rfl hl.1 rfl (lv_room (Nat.le_of_ble_eq_true rfl)) dX6_addPrime_10 ⟨Nat.le_of_ble_eq_true rfl, Nat.le_of_ble_eq_true rfl⟩) hS (fun q _ h => hFc q h) hFc (fun r_2 u t H1 locs ht hvm hpost hB hz1 hk1 hS => ?_)
    subst hpost
    obtain ⟨hf_3, hP1, hK1, hD1⟩ := hB
    rw [ht] at hP1
    obtain ⟨hP, hD⟩ := va_join (wr := [(x_primeMetres, .inl (cI, 5, .inl (fun _ => 0)))]) (w1 := [(h0, .inr (6, [.int 1, .ref x_rises, .ref x_winds, .int 0, .ref x_primeMetres, .int 0, .int 0]))]) hP hD [0] [1] rfl rfl (by decide) (by decide) hk1 hFc hP1 hD1
    generalize H1 = H at hP hS ⊢
    have hP : va_P (dC, dI) vwCl [(x_primeMetres, .inl (cI, 5, .inl (fun _ => 0))), (h0, .inr (6, [.int 1, .ref x_rises, .ref x_winds, .int 0, .ref x_primeMetres, .int 0, .int 0]))] H := hP
    have hD : va_D A [(x_primeMetres, .inl (cI, 5, .inl (fun _ => 0))), (h0, .inr (6, [.int 1, .ref x_rises, .ref x_winds, .int 0, .ref x_primeMetres, .int 0, .int 0]))] := hD
    have hf_3 : (r_2 = 1 ∧ (1 ≤ pM_i ∧ pM_i ≤ 999)) ∨ (r_2 = 0 ∧ ¬ (1 ≤ pM_i ∧ pM_i ≤ 999)) := hf_3
    rcases hf_3 with ⟨rfl, hf_3⟩ | ⟨rfl, hf_3⟩
    ·
      refine lv_if_ne (tgt := 18) hx hb dX6_addPrime_13 (by decide) (fun c_4 => ?_) (fun c_4 => ?_)
      ·
        refine lv_aload_n hx hb dX6_addPrime_18 rfl (lv_at hl 0 rfl) ?_
        refine va_get (D := (dC, dI)) (ci := 6) (v := .ref x_primeMetres) (C := RX6) (T := TX6) (N := 7) hx hb hts hiX6 hown hK hP 1 rfl rfl 4 (by decide) hw5 (fun _ h9 => h9) rfl dX6_addPrime_19 ?_
        refine lv_aload_n hx hb dX6_addPrime_22 rfl (lv_at hl 0 rfl) ?_
        refine va_get (D := (dC, dI)) (ci := 6) (v := .int 0) (C := RX6) (T := TX6) (N := 7) hx hb hts hiX6 hown hK hP 1 rfl rfl 3 (by decide) hw0 (fun _ h9 => h9) rfl dX6_addPrime_23 ?_
        refine lv_iload_n hx hb dX6_addPrime_26 rfl (lv_at hl 1 rfl) ?_
        refine va_iast hx hb hK hP hD hS 0 0 rfl rfl (zz_inl rfl) dX6_addPrime_27 (fun H locs hP hD hS => ?_)
        have hP : va_P (dC, dI) vwCl [(x_primeMetres, .inl (cI, 5, .inl (upd (fun _ => 0) (Int32.toNatClampNeg 0) pM))), (h0, .inr (6, [.int 1, .ref x_rises, .ref x_winds, .int 0, .ref x_primeMetres, .int 0, .int 0]))] H := hP
        have hD : va_D A [(x_primeMetres, .inl (cI, 5, .inl (upd (fun _ => 0) (Int32.toNatClampNeg 0) pM))), (h0, .inr (6, [.int 1, .ref x_rises, .ref x_winds, .int 0, .ref x_primeMetres, .int 0, .int 0]))] := hD
        refine lv_aload_n hx hb dX6_addPrime_28 rfl (lv_at hl 0 rfl) ?_
        refine lv_dup hx hb dX6_addPrime_29 rfl ?_
        refine va_get (D := (dC, dI)) (ci := 6) (v := .int 0) (C := RX6) (T := TX6) (N := 7) hx hb hts hiX6 hown hK hP 1 rfl rfl 3 (by decide) hw0 (fun _ h9 => h9) rfl dX6_addPrime_30 ?_
        refine lv_iconst (v := 1) hx hb dX6_addPrime_33 (by decide) ?_
        refine lv_iadd hx hb dX6_addPrime_34 ?_
        refine lv_topi (fun v_5 ev_5 => ?_)
        obtain rfl : v_5 = 1 := ev_5.trans (by decide)
        refine va_put (D := (dC, dI)) (ci := 6) (v := .int 1) (ty := .int) (C := RX6) (T := TX6) (N := 7) hx hb hts hiX6 tyX6 tyX6_ok nmX6 hown hK hP hD hS 1 rfl rfl 3 (by decide) hw0 (fun _ h9 => h9) rfl (by decide +kernel) rfl rfl (Nat.le_of_ble_eq_true rfl) dX6_addPrime_35 (fun H locs hP hD hS => ?_)
        have hP : va_P (dC, dI) vwCl [(x_primeMetres, .inl (cI, 5, .inl (upd (fun _ => 0) (Int32.toNatClampNeg 0) pM))), (h0, .inr (6, [.int 1, .ref x_rises, .ref x_winds, .int 1, .ref x_primeMetres, .int 0, .int 0]))] H := hP
        have hD : va_D A [(x_primeMetres, .inl (cI, 5, .inl (upd (fun _ => 0) (Int32.toNatClampNeg 0) pM))), (h0, .inr (6, [.int 1, .ref x_rises, .ref x_winds, .int 1, .ref x_primeMetres, .int 0, .int 0]))] := hD
        refine lv_aload_n hx hb dX6_addPrime_38 rfl (lv_at hl 0 rfl) ?_
        refine va_get (D := (dC, dI)) (ci := 6) (v := .int 1) (C := RX6) (T := TX6) (N := 7) hx hb hts hiX6 hown hK hP 1 rfl rfl 3 (by decide) hw0 (fun _ h9 => h9) rfl dX6_addPrime_39 ?_
        refine lv_iconst (v := 1) hx hb dX6_addPrime_42 (by decide) ?_
        refine lv_isub hx hb dX6_addPrime_43 ?_
        refine lv_topi (fun v_6 ev_6 => ?_)
        obtain rfl : v_6 = 0 := ev_6.trans (by decide)
        have hP9 := hP.sub (ws' := []) [] rfl
        have hD9 := hD.sub (ws' := []) [] (by decide) rfl
        refine W.widen (k := 0) (n := 0) (Nat.le_of_ble_eq_true rfl) (Nat.le_of_ble_eq_true rfl) ?_
        have hu9 : (0 : Int32).toInt = (0:Int) := (by decide)
        have hf9_0 : ((1 ≤ pM_i ∧ pM_i ≤ 999) ∧ (0 : Int32).toInt = 0) ∨ (¬ (1 ≤ pM_i ∧ pM_i ≤ 999) ∧ (0 : Int32).toInt = -1) := by omega
        exact W.iret (v := 0) hx hb hr (fun t ht hW => ⟨⟨0, 0, rfl, rfl, hf9_0, by rw [ht]; exact hP9, va_K.moved hW.alike hK, hD9⟩, hS.F ht⟩) hS.2.2 dX6_addPrime_44
      ·
        exact absurd c_4 (by decide)
    ·
      refine lv_if_ne (tgt := 18) hx hb dX6_addPrime_13 (by decide) (fun c_7 => ?_) (fun c_7 => ?_)
      ·
        exact absurd c_7 (by decide)
      ·
        refine lv_iconst (v := (-1)) hx hb dX6_addPrime_16 (by decide) ?_
        have hP9 := hP.sub (ws' := []) [] rfl
        have hD9 := hD.sub (ws' := []) [] (by decide) rfl
        refine W.widen (k := 0) (n := 0) (Nat.le_of_ble_eq_true rfl) (Nat.le_of_ble_eq_true rfl) ?_
        have hu9 : ((-1) : Int32).toInt = (-1:Int) := (by decide)
        have hf9_0 : ((1 ≤ pM_i ∧ pM_i ≤ 999) ∧ ((-1) : Int32).toInt = 0) ∨ (¬ (1 ≤ pM_i ∧ pM_i ≤ 999) ∧ ((-1) : Int32).toInt = -1) := by omega
        exact W.iret (v := (-1)) hx hb hr (fun t ht hW => ⟨⟨(-1), (-1), rfl, rfl, hf9_0, by rw [ht]; exact hP9, va_K.moved hW.alike hK, hD9⟩, hS.F ht⟩) hS.2.2 dX6_addPrime_17

set_option maxHeartbeats 4000000 in
set_option maxRecDepth 100000 in
theorem c_X9_prime (l : Launch) (dC : Nat → ClassId) (dI : Nat → Nat → Nat) (cI cZ : ClassId) (sz : Nat) (h0 : Nat) (x_riders : Nat) (x_road : Nat) (x_tape : Nat) (x_book : Nat) (x_reader : Nat) (x_latest : Nat) (x_log : Nat) (x_trial : Nat) (x_stages : Nat) (x_ro_rises : Nat) (x_ro_winds : Nat) (x_ro_primeMetres : Nat) (pM : Int32) (pM_i : Int) (pM_h : pM.toInt = pM_i) : Met l yX9_prime (Cond.code yX9_prime cX9_prime 2 (some .int) :: lw_good) ({ frames := 3, cells := 0, slots := 0, locals := 62 }) (va_Pc [.ref h0, .int pM] (fun U => U.heap.size = sz ∧ va_P (dC, dI) vwCl [(h0, .inr (9, [.ref x_riders, .ref x_road, .ref x_tape, .ref x_book, .ref x_reader, .ref x_latest, .ref x_log, .ref x_trial, .ref x_stages, .int 0, .int 0, .int 0])), (x_road, .inr (6, [.int 1, .ref x_ro_rises, .ref x_ro_winds, .int 0, .ref x_ro_primeMetres, .int 0, .int 0])), (x_ro_rises, .inl (cI, 30, .inl (fun _ => 0))), (x_ro_winds, .inl (cI, 30, .inl (fun _ => 0))), (x_ro_primeMetres, .inl (cI, 5, .inl (fun _ => 0)))] U.heap ∧ va_K (dC, dI) vwCl [(cI, .int), (cZ, .boolean)] U ∧ va_D (fun _ => True) [(h0, .inr (9, [.ref x_riders, .ref x_road, .ref x_tape, .ref x_book, .ref x_reader, .ref x_latest, .ref x_log, .ref x_trial, .ref x_stages, .int 0, .int 0, .int 0])), (x_road, .inr (6, [.int 1, .ref x_ro_rises, .ref x_ro_winds, .int 0, .ref x_ro_primeMetres, .int 0, .int 0])), (x_ro_rises, .inl (cI, 30, .inl (fun _ => 0))), (x_ro_winds, .inl (cI, 30, .inl (fun _ => 0))), (x_ro_primeMetres, .inl (cI, 5, .inl (fun _ => 0)))])) (va_Qi (fun (r u : Int32) => r = u) (fun u t => (((1 ≤ pM_i ∧ pM_i ≤ 999) ∧ u.toInt = 0) ∨ (¬ (1 ≤ pM_i ∧ pM_i ≤ 999) ∧ u.toInt = -1)) ∧ va_P (dC, dI) vwCl [] t.heap ∧ va_K (dC, dI) vwCl [(cI, .int), (cZ, .boolean)] t ∧ va_D (va_A [(h0, .inr (9, [.ref x_riders, .ref x_road, .ref x_tape, .ref x_book, .ref x_reader, .ref x_latest, .ref x_log, .ref x_trial, .ref x_stages, .int 0, .int 0, .int 0])), (x_road, .inr (6, [.int 1, .ref x_ro_rises, .ref x_ro_winds, .int 0, .ref x_ro_primeMetres, .int 0, .int 0])), (x_ro_rises, .inl (cI, 30, .inl (fun _ => 0))), (x_ro_winds, .inl (cI, 30, .inl (fun _ => 0))), (x_ro_primeMetres, .inl (cI, 5, .inl (fun _ => 0)))] sz) []) (va_A [(h0, .inr (9, [.ref x_riders, .ref x_road, .ref x_tape, .ref x_book, .ref x_reader, .ref x_latest, .ref x_log, .ref x_trial, .ref x_stages, .int 0, .int 0, .int 0])), (x_road, .inr (6, [.int 1, .ref x_ro_rises, .ref x_ro_winds, .int 0, .ref x_ro_primeMetres, .int 0, .int 0])), (x_ro_rises, .inl (cI, 30, .inl (fun _ => 0))), (x_ro_winds, .inl (cI, 30, .inl (fun _ => 0))), (x_ro_primeMetres, .inl (cI, 5, .inl (fun _ => 0)))] sz)) 0 0 (va_A [(h0, .inr (9, [.ref x_riders, .ref x_road, .ref x_tape, .ref x_book, .ref x_reader, .ref x_latest, .ref x_log, .ref x_trial, .ref x_stages, .int 0, .int 0, .int 0])), (x_road, .inr (6, [.int 1, .ref x_ro_rises, .ref x_ro_winds, .int 0, .ref x_ro_primeMetres, .int 0, .int 0])), (x_ro_rises, .inl (cI, 30, .inl (fun _ => 0))), (x_ro_winds, .inl (cI, 30, .inl (fun _ => 0))), (x_ro_primeMetres, .inl (cI, 5, .inl (fun _ => 0)))] sz) := by
  refine Met.ofW (cc := cX9_prime) (maxL := 2) (ret := (some .int)) (by decide) rfl ?_
  intro p e s m args below meth c s₁ B hml hv
  obtain ⟨rfl, hsz, hP, hK, hD0⟩ := hv
  have hx := B.exec
  have hb := B.bytes
  have hr := B.returns
  have hts := atoms_spec (ws := Cond.code yX9_prime cX9_prime 2 (some .int) :: lw_good) B.pre
  have hown : s.vm.findClass RX9 = some m.cls := findClass_of_methodNamed B.named
  have hlocks := B.notSynchronized
  have hiX9 : ∀ w ∈ wsX90, w ∈ (Cond.code yX9_prime cX9_prime 2 (some .int) :: lw_good) := fun w h => List.mem_cons_of_mem _ (zi_X9 w h)
  have hw0 := hts (.fieldLink RX9 19 "BunchRace" "road" "LBunchRace$Road;") (List.mem_cons_of_mem _ zw_335)
  have hw1 := hts (.initialized RX6) (List.mem_cons_of_mem _ zw_50)
  have hw2 := hts (.methodLink RX9 94 yX6_addPrime) (List.mem_cons_of_mem _ zw_402)
  have hw3 := hts (.instanceMethod yX6_addPrime) (List.mem_cons_of_mem _ zw_403)
  have hw4 := hts (.selects RX6 yX6_addPrime yX6_addPrime) (List.mem_cons_of_mem _ zw_404)
  subst hsz
  have hD := hD0.self (sz := s.heap.size)
  generalize hAe : va_A [(h0, .inr (9, [.ref x_riders, .ref x_road, .ref x_tape, .ref x_book, .ref x_reader, .ref x_latest, .ref x_log, .ref x_trial, .ref x_stages, .int 0, .int 0, .int 0])), (x_road, .inr (6, [.int 1, .ref x_ro_rises, .ref x_ro_winds, .int 0, .ref x_ro_primeMetres, .int 0, .int 0])), (x_ro_rises, .inl (cI, 30, .inl (fun _ => 0))), (x_ro_winds, .inl (cI, 30, .inl (fun _ => 0))), (x_ro_primeMetres, .inl (cI, 5, .inl (fun _ => 0)))] s.heap.size = A at hD ⊢
  have hA : ∀ q : Nat, s.heap.size ≤ q → A q := fun q h => by rw [← hAe]; exact Or.inr h
  have hS : va_S A s.heap s.heap [] := va_S.rf
  have hP : va_P (dC, dI) vwCl [(h0, .inr (9, [.ref x_riders, .ref x_road, .ref x_tape, .ref x_book, .ref x_reader, .ref x_latest, .ref x_log, .ref x_trial, .ref x_stages, .int 0, .int 0, .int 0])), (x_road, .inr (6, [.int 1, .ref x_ro_rises, .ref x_ro_winds, .int 0, .ref x_ro_primeMetres, .int 0, .int 0])), (x_ro_rises, .inl (cI, 30, .inl (fun _ => 0))), (x_ro_winds, .inl (cI, 30, .inl (fun _ => 0))), (x_ro_primeMetres, .inl (cI, 5, .inl (fun _ => 0)))] s.heap := hP
  have hl := lv_entry ([.ref h0, .int pM]) (n := 2) (Nat.le_of_ble_eq_true rfl)
  rw [lg_entry_eq]
  generalize (lg_sl ([.ref h0, .int pM]) ++ List.replicate (2 - (lg_sl ([.ref h0, .int pM])).length) Slot.unset).toArray = ls at hl ⊢
  have hl : lv_has ls 2 [(0, .ref h0), (1, .int pM)] := hl
  refine lv_aload_n hx hb dX9_prime_0 rfl (lv_at hl 0 rfl) ?_
  refine va_get (D := (dC, dI)) (ci := 9) (v := .ref x_road) (C := RX9) (T := TX9) (N := 12) hx hb hts hiX9 hown hK hP 0 rfl rfl 1 (by decide) hw0 (fun _ h9 => h9) rfl dX9_prime_1 ?_
  refine lv_iload_n hx hb dX9_prime_4 rfl (lv_at hl 1 rfl) ?_
  have hPc := hP.sub (ws' := [(x_road, .inr (6, [.int 1, .ref x_ro_rises, .ref x_ro_winds, .int 0, .ref x_ro_primeMetres, .int 0, .int 0])), (x_ro_primeMetres, .inl (cI, 5, .inl (fun _ => 0)))]) [1, 4] rfl
  have hDc := hD.sub (ws' := [(x_road, .inr (6, [.int 1, .ref x_ro_rises, .ref x_ro_winds, .int 0, .ref x_ro_primeMetres, .int 0, .int 0])), (x_ro_primeMetres, .inl (cI, 5, .inl (fun _ => 0)))]) [1, 4] (by decide) rfl
  have hFc := va_free (wc := [(x_road, .inr (6, [.int 1, .ref x_ro_rises, .ref x_ro_winds, .int 0, .ref x_ro_primeMetres, .int 0, .int 0])), (x_ro_primeMetres, .inl (cI, 5, .inl (fun _ => 0)))]) hD hS hA [1, 4] rfl
  refine va_calli (va_runV (As := [.int pM]) (rest := []) ⟨hx, hb, hml, hown, hts⟩ (c_X6_addPrime l dC dI cI cZ (s.heap).size x_road x_ro_rises x_ro_winds x_ro_primeMetres pM pM_i pM_h) ⟨callB_of 1 hts (zz_good zw_405) rfl rfl rfl hw1 hw2 (by decide +kernel) ⟨Nat.le_of_ble_eq_true rfl, Nat.le_of_ble_eq_true rfl⟩, hw3, hw4⟩ ⟨fun a U g mk q => by obtain ⟨q0, q1, qP, qK, qD⟩ := q; exact ⟨q0, q1, qP, va_K.moved (u := U) (U := U.calling g mk a) (Vm.Alike.refl U.vm) qK, qD⟩, va_recv hK hPc (ci := 6) (q0 := 0) rfl rfl, fun U hU hW => ⟨rfl, by rw [hU], by rw [hU]; exact hPc, va_K.moved hW.alike hK, hDc.weaken (fun _ _ _ _ => trivial)⟩⟩ rfl rfl hl.1 rfl (lv_room (Nat.le_of_ble_eq_true rfl)) dX9_prime_5 ⟨Nat.le_of_ble_eq_true rfl, Nat.le_of_ble_eq_true rfl⟩) hS (fun q _ h => hFc q h) hFc (fun r_1 u t H1 locs ht hvm hpost hB hz1 hk1 hS => ?_)
  subst hpost
  obtain ⟨hf_2, hP1, hK1, hD1⟩ := hB
  rw [ht] at hP1
  obtain ⟨hP, hD⟩ := va_join (wr := [(h0, .inr (9, [.ref x_riders, .ref x_road, .ref x_tape, .ref x_book, .ref x_reader, .ref x_latest, .ref x_log, .ref x_trial, .ref x_stages, .int 0, .int 0, .int 0])), (x_ro_rises, .inl (cI, 30, .inl (fun _ => 0))), (x_ro_winds, .inl (cI, 30, .inl (fun _ => 0)))]) (w1 := []) hP hD [1, 4] [0, 2, 3] rfl rfl (by decide) (by decide) hk1 hFc hP1 hD1
  generalize H1 = H at hP hS ⊢
  have hP : va_P (dC, dI) vwCl [(h0, .inr (9, [.ref x_riders, .ref x_road, .ref x_tape, .ref x_book, .ref x_reader, .ref x_latest, .ref x_log, .ref x_trial, .ref x_stages, .int 0, .int 0, .int 0])), (x_ro_rises, .inl (cI, 30, .inl (fun _ => 0))), (x_ro_winds, .inl (cI, 30, .inl (fun _ => 0)))] H := hP
  have hD : va_D A [(h0, .inr (9, [.ref x_riders, .ref x_road, .ref x_tape, .ref x_book, .ref x_reader, .ref x_latest, .ref x_log, .ref x_trial, .ref x_stages, .int 0, .int 0, .int 0])), (x_ro_rises, .inl (cI, 30, .inl (fun _ => 0))), (x_ro_winds, .inl (cI, 30, .inl (fun _ => 0)))] := hD
  have hf_2 : ((1 ≤ pM_i ∧ pM_i ≤ 999) ∧ r_1.toInt = 0) ∨ (¬ (1 ≤ pM_i ∧ pM_i ≤ 999) ∧ r_1.toInt = -1) := hf_2
  have hP9 := hP.sub (ws' := []) [] rfl
  have hD9 := hD.sub (ws' := []) [] (by decide) rfl
  refine W.widen (k := 0) (n := 0) (Nat.le_of_ble_eq_true rfl) (Nat.le_of_ble_eq_true rfl) ?_
  have hu9 : (r_1 : Int32).toInt = (r_1).toInt := rfl
  have hf9_0 : ((1 ≤ pM_i ∧ pM_i ≤ 999) ∧ r_1.toInt = 0) ∨ (¬ (1 ≤ pM_i ∧ pM_i ≤ 999) ∧ r_1.toInt = -1) := by omega
  exact W.iret (v := r_1) hx hb hr (fun t ht hW => ⟨⟨r_1, r_1, rfl, rfl, hf9_0, by rw [ht]; exact hP9, va_K.moved hW.alike hK, hD9⟩, hS.F ht⟩) hS.2.2 dX9_prime_8

set_option maxHeartbeats 4000000 in
set_option maxRecDepth 100000 in
theorem c_X6_putCrash (l : Launch) (dC : Nat → ClassId) (dI : Nat → Nat → Nat) (cI cZ : ClassId) (sz : Nat) (h0 : Nat) (x_rises : Nat) (x_winds : Nat) (x_primeMetres : Nat) (pM : Int32) (pM_i : Int) (pM_h : pM.toInt = pM_i) (pA : Int32) (pA_i : Int) (pA_h : pA.toInt = pA_i) : Met l yX6_putCrash (Cond.code yX6_putCrash cX6_putCrash 3 (some .boolean) :: lw_good) ({ frames := 2, cells := 0, slots := 0, locals := 41 }) (va_Pc [.ref h0, .int pM, .int pA] (fun U => U.heap.size = sz ∧ va_P (dC, dI) vwCl [(h0, .inr (6, [.int 1, .ref x_rises, .ref x_winds, .int 0, .ref x_primeMetres, .int 0, .int 0]))] U.heap ∧ va_K (dC, dI) vwCl [(cI, .int), (cZ, .boolean)] U ∧ va_D (fun _ => True) [(h0, .inr (6, [.int 1, .ref x_rises, .ref x_winds, .int 0, .ref x_primeMetres, .int 0, .int 0]))])) (va_Qi (fun (r u : Int32) => r = u) (fun u t => ((u = 1 ∧ (1 ≤ pM_i ∧ pM_i ≤ 999 ∧ 0 ≤ pA_i ∧ pA_i ≤ 100)) ∨ (u = 0 ∧ ¬ (1 ≤ pM_i ∧ pM_i ≤ 999 ∧ 0 ≤ pA_i ∧ pA_i ≤ 100))) ∧ va_P (dC, dI) vwCl [] t.heap ∧ va_K (dC, dI) vwCl [(cI, .int), (cZ, .boolean)] t ∧ va_D (va_A [(h0, .inr (6, [.int 1, .ref x_rises, .ref x_winds, .int 0, .ref x_primeMetres, .int 0, .int 0]))] sz) []) (va_A [(h0, .inr (6, [.int 1, .ref x_rises, .ref x_winds, .int 0, .ref x_primeMetres, .int 0, .int 0]))] sz)) 0 0 (va_A [(h0, .inr (6, [.int 1, .ref x_rises, .ref x_winds, .int 0, .ref x_primeMetres, .int 0, .int 0]))] sz) := by
  refine Met.ofW (cc := cX6_putCrash) (maxL := 3) (ret := (some .boolean)) (by decide) rfl ?_
  intro p e s m args below meth c s₁ B hml hv
  obtain ⟨rfl, hsz, hP, hK, hD0⟩ := hv
  have hx := B.exec
  have hb := B.bytes
  have hr := B.returns
  have hts := atoms_spec (ws := Cond.code yX6_putCrash cX6_putCrash 3 (some .boolean) :: lw_good) B.pre
  have hown : s.vm.findClass RX6 = some m.cls := findClass_of_methodNamed B.named
  have hlocks := B.notSynchronized
  have hiX6 : ∀ w ∈ wsX60, w ∈ (Cond.code yX6_putCrash cX6_putCrash 3 (some .boolean) :: lw_good) := fun w h => List.mem_cons_of_mem _ (zi_X6 w h)
  have hw0 := hts (.initialized RX6) (List.mem_cons_of_mem _ zw_50)
  have hw1 := hts (.methodLink RX6 38 yX6_isBetweenEnds) (List.mem_cons_of_mem _ zw_406)
  have hw2 := hts (.instanceMethod yX6_isBetweenEnds) (List.mem_cons_of_mem _ zw_407)
  have hw3 := hts (.selects RX6 yX6_isBetweenEnds yX6_isBetweenEnds) (List.mem_cons_of_mem _ zw_408)
  have hw4 := hts (.fieldLink RX6 28 "BunchRace$Road" "crashMetre" "I") (List.mem_cons_of_mem _ zw_116)
  have hw5 := hts (.fieldLink RX6 31 "BunchRace$Road" "crashPart" "I") (List.mem_cons_of_mem _ zw_118)
  subst hsz
  have hD := hD0.self (sz := s.heap.size)
  generalize hAe : va_A [(h0, .inr (6, [.int 1, .ref x_rises, .ref x_winds, .int 0, .ref x_primeMetres, .int 0, .int 0]))] s.heap.size = A at hD ⊢
  have hA : ∀ q : Nat, s.heap.size ≤ q → A q := fun q h => by rw [← hAe]; exact Or.inr h
  have hS : va_S A s.heap s.heap [] := va_S.rf
  have hP : va_P (dC, dI) vwCl [(h0, .inr (6, [.int 1, .ref x_rises, .ref x_winds, .int 0, .ref x_primeMetres, .int 0, .int 0]))] s.heap := hP
  have hl := lv_entry ([.ref h0, .int pM, .int pA]) (n := 3) (Nat.le_of_ble_eq_true rfl)
  rw [lg_entry_eq]
  generalize (lg_sl ([.ref h0, .int pM, .int pA]) ++ List.replicate (3 - (lg_sl ([.ref h0, .int pM, .int pA])).length) Slot.unset).toArray = ls at hl ⊢
  have hl : lv_has ls 3 [(0, .ref h0), (1, .int pM), (2, .int pA)] := hl
  refine lv_aload_n hx hb dX6_putCrash_0 rfl (lv_at hl 0 rfl) ?_
  refine lv_iload_n hx hb dX6_putCrash_1 rfl (lv_at hl 1 rfl) ?_
  have hPc := hP.sub (ws' := [(h0, .inr (6, [.int 1, .ref x_rises, .ref x_winds, .int 0, .ref x_primeMetres, .int 0, .int 0]))]) [0] rfl
  have hDc := hD.sub (ws' := [(h0, .inr (6, [.int 1, .ref x_rises, .ref x_winds, .int 0, .ref x_primeMetres, .int 0, .int 0]))]) [0] (by decide) rfl
  have hFc := va_free (wc := [(h0, .inr (6, [.int 1, .ref x_rises, .ref x_winds, .int 0, .ref x_primeMetres, .int 0, .int 0]))]) hD hS hA [0] rfl
  refine va_calli (va_runV (As := [.int pM]) (rest := []) ⟨hx, hb, hml, hown, hts⟩ (c_X6_isBetweenEnds l dC dI cI cZ (s.heap).size h0 x_rises x_winds x_primeMetres pM pM_i pM_h) ⟨callB_of 1 hts (zz_good zw_409) rfl rfl rfl hw0 hw1 (by decide +kernel) ⟨Nat.le_of_ble_eq_true rfl, Nat.le_of_ble_eq_true rfl⟩, hw2, hw3⟩ ⟨fun a U g mk q => by obtain ⟨q0, q1, qP, qK, qD⟩ := q; exact ⟨q0, q1, qP, va_K.moved (u := U) (U := U.calling g mk a) (Vm.Alike.refl U.vm) qK, qD⟩, va_recv hK hPc (ci := 6) (q0 := 0) rfl rfl, fun U hU hW => ⟨rfl, by rw [hU], by rw [hU]; exact hPc, va_K.moved hW.alike hK, hDc.weaken (fun _ _ _ _ => trivial)⟩⟩ rfl rfl hl.1 rfl (lv_room (Nat.le_of_ble_eq_true rfl)) dX6_putCrash_2 ⟨Nat.le_of_ble_eq_true rfl, Nat.le_of_ble_eq_true rfl⟩) hS (fun q _ h => hFc q h) hFc (fun r_1 u t H1 locs ht hvm hpost hB hz1 hk1 hS => ?_)
  subst hpost
  obtain ⟨hf_2, hP1, hK1, hD1⟩ := hB
  rw [ht] at hP1
  obtain ⟨hP, hD⟩ := va_join (wr := []) (w1 := [(h0, .inr (6, [.int 1, .ref x_rises, .ref x_winds, .int 0, .ref x_primeMetres, .int 0, .int 0]))]) hP hD [0] [] rfl rfl (by decide) (by decide) hk1 hFc hP1 hD1
  generalize H1 = H at hP hS ⊢
  have hP : va_P (dC, dI) vwCl [(h0, .inr (6, [.int 1, .ref x_rises, .ref x_winds, .int 0, .ref x_primeMetres, .int 0, .int 0]))] H := hP
  have hD : va_D A [(h0, .inr (6, [.int 1, .ref x_rises, .ref x_winds, .int 0, .ref x_primeMetres, .int 0, .int 0]))] := hD
  have hf_2 : (r_1 = 1 ∧ (1 ≤ pM_i ∧ pM_i ≤ 999)) ∨ (r_1 = 0 ∧ ¬ (1 ≤ pM_i ∧ pM_i ≤ 999)) := hf_2
  rcases hf_2 with ⟨rfl, hf_2⟩ | ⟨rfl, hf_2⟩
  ·
    refine lv_if_eq (tgt := 18) hx hb dX6_putCrash_5 (by decide) (fun c_3 => ?_) (fun c_3 => ?_)
    ·
      exact absurd c_3 (by decide)
    ·
      refine lv_iload_n hx hb dX6_putCrash_8 rfl (lv_at hl 2 rfl) ?_
      refine lv_if_lt (tgt := 18) hx hb dX6_putCrash_9 (by decide) (fun c_4 => ?_) (fun c_4 => ?_)
      ·
        have c_4 : pA_i < (0:Int) := zz_lt pA_h (by decide) c_4
        refine lv_iconst (v := 0) hx hb dX6_putCrash_18 (by decide) ?_
        have hP9 := hP.sub (ws' := []) [] rfl
        have hD9 := hD.sub (ws' := []) [] (by decide) rfl
        refine W.widen (k := 0) (n := 0) (Nat.le_of_ble_eq_true rfl) (Nat.le_of_ble_eq_true rfl) ?_
        have hu9 : (0 : Int32).toInt = (0:Int) := (by decide)
        have hf9_0 : ((0 : Int32) = 1 ∧ (1 ≤ pM_i ∧ pM_i ≤ 999 ∧ 0 ≤ pA_i ∧ pA_i ≤ 100)) ∨ ((0 : Int32) = 0 ∧ ¬ (1 ≤ pM_i ∧ pM_i ≤ 999 ∧ 0 ≤ pA_i ∧ pA_i ≤ 100)) := Or.inr ⟨rfl, by omega⟩
        exact W.zret (v := 0) hx hb hr rfl (fun t ht hW => ⟨⟨0, 0, rfl, rfl, hf9_0, by rw [ht]; exact hP9, va_K.moved hW.alike hK, hD9⟩, hS.F ht⟩) hS.2.2 dX6_putCrash_19
      ·
        have c_4 : ¬ (pA_i < (0:Int)) := zz_ltn pA_h (by decide) c_4
        refine lv_iload_n hx hb dX6_putCrash_12 rfl (lv_at hl 2 rfl) ?_
        refine lv_bipush (v := 100) hx hb dX6_putCrash_13 (by decide) ?_
        refine lv_icmp_le (tgt := 20) hx hb dX6_putCrash_15 (by decide) (fun c_5 => ?_) (fun c_5 => ?_)
        ·
          have c_5 : pA_i ≤ (100:Int) := zz_le pA_h (by decide) c_5
          refine lv_aload_n hx hb dX6_putCrash_20 rfl (lv_at hl 0 rfl) ?_
          refine lv_iload_n hx hb dX6_putCrash_21 rfl (lv_at hl 1 rfl) ?_
          refine va_put (D := (dC, dI)) (ci := 6) (v := .int pM) (ty := .int) (C := RX6) (T := TX6) (N := 7) hx hb hts hiX6 tyX6 tyX6_ok nmX6 hown hK hP hD hS 0 rfl rfl 5 (by decide) hw4 (fun _ h9 => h9) rfl (by decide +kernel) rfl rfl (Nat.le_of_ble_eq_true rfl) dX6_putCrash_22 (fun H locs hP hD hS => ?_)
          have hP : va_P (dC, dI) vwCl [(h0, .inr (6, [.int 1, .ref x_rises, .ref x_winds, .int 0, .ref x_primeMetres, .int pM, .int 0]))] H := hP
          have hD : va_D A [(h0, .inr (6, [.int 1, .ref x_rises, .ref x_winds, .int 0, .ref x_primeMetres, .int pM, .int 0]))] := hD
          refine lv_aload_n hx hb dX6_putCrash_25 rfl (lv_at hl 0 rfl) ?_
          refine lv_iload_n hx hb dX6_putCrash_26 rfl (lv_at hl 2 rfl) ?_
          refine va_put (D := (dC, dI)) (ci := 6) (v := .int pA) (ty := .int) (C := RX6) (T := TX6) (N := 7) hx hb hts hiX6 tyX6 tyX6_ok nmX6 hown hK hP hD hS 0 rfl rfl 6 (by decide) hw5 (fun _ h9 => h9) rfl (by decide +kernel) rfl rfl (Nat.le_of_ble_eq_true rfl) dX6_putCrash_27 (fun H locs hP hD hS => ?_)
          have hP : va_P (dC, dI) vwCl [(h0, .inr (6, [.int 1, .ref x_rises, .ref x_winds, .int 0, .ref x_primeMetres, .int pM, .int pA]))] H := hP
          have hD : va_D A [(h0, .inr (6, [.int 1, .ref x_rises, .ref x_winds, .int 0, .ref x_primeMetres, .int pM, .int pA]))] := hD
          refine lv_iconst (v := 1) hx hb dX6_putCrash_30 (by decide) ?_
          have hP9 := hP.sub (ws' := []) [] rfl
          have hD9 := hD.sub (ws' := []) [] (by decide) rfl
          refine W.widen (k := 0) (n := 0) (Nat.le_of_ble_eq_true rfl) (Nat.le_of_ble_eq_true rfl) ?_
          have hu9 : (1 : Int32).toInt = (1:Int) := (by decide)
          have hf9_0 : ((1 : Int32) = 1 ∧ (1 ≤ pM_i ∧ pM_i ≤ 999 ∧ 0 ≤ pA_i ∧ pA_i ≤ 100)) ∨ ((1 : Int32) = 0 ∧ ¬ (1 ≤ pM_i ∧ pM_i ≤ 999 ∧ 0 ≤ pA_i ∧ pA_i ≤ 100)) := Or.inl ⟨rfl, by omega⟩
          exact W.zret (v := 1) hx hb hr rfl (fun t ht hW => ⟨⟨1, 1, rfl, rfl, hf9_0, by rw [ht]; exact hP9, va_K.moved hW.alike hK, hD9⟩, hS.F ht⟩) hS.2.2 dX6_putCrash_31
        ·
          have c_5 : ¬ (pA_i ≤ (100:Int)) := zz_len pA_h (by decide) c_5
          refine lv_iconst (v := 0) hx hb dX6_putCrash_18 (by decide) ?_
          have hP9 := hP.sub (ws' := []) [] rfl
          have hD9 := hD.sub (ws' := []) [] (by decide) rfl
          refine W.widen (k := 0) (n := 0) (Nat.le_of_ble_eq_true rfl) (Nat.le_of_ble_eq_true rfl) ?_
          have hu9 : (0 : Int32).toInt = (0:Int) := (by decide)
          have hf9_0 : ((0 : Int32) = 1 ∧ (1 ≤ pM_i ∧ pM_i ≤ 999 ∧ 0 ≤ pA_i ∧ pA_i ≤ 100)) ∨ ((0 : Int32) = 0 ∧ ¬ (1 ≤ pM_i ∧ pM_i ≤ 999 ∧ 0 ≤ pA_i ∧ pA_i ≤ 100)) := Or.inr ⟨rfl, by omega⟩
          exact W.zret (v := 0) hx hb hr rfl (fun t ht hW => ⟨⟨0, 0, rfl, rfl, hf9_0, by rw [ht]; exact hP9, va_K.moved hW.alike hK, hD9⟩, hS.F ht⟩) hS.2.2 dX6_putCrash_19
  ·
    refine lv_if_eq (tgt := 18) hx hb dX6_putCrash_5 (by decide) (fun c_6 => ?_) (fun c_6 => ?_)
    ·
      refine lv_iconst (v := 0) hx hb dX6_putCrash_18 (by decide) ?_
      have hP9 := hP.sub (ws' := []) [] rfl
      have hD9 := hD.sub (ws' := []) [] (by decide) rfl
      refine W.widen (k := 0) (n := 0) (Nat.le_of_ble_eq_true rfl) (Nat.le_of_ble_eq_true rfl) ?_
      have hu9 : (0 : Int32).toInt = (0:Int) := (by decide)
      have hf9_0 : ((0 : Int32) = 1 ∧ (1 ≤ pM_i ∧ pM_i ≤ 999 ∧ 0 ≤ pA_i ∧ pA_i ≤ 100)) ∨ ((0 : Int32) = 0 ∧ ¬ (1 ≤ pM_i ∧ pM_i ≤ 999 ∧ 0 ≤ pA_i ∧ pA_i ≤ 100)) := Or.inr ⟨rfl, by omega⟩
      exact W.zret (v := 0) hx hb hr rfl (fun t ht hW => ⟨⟨0, 0, rfl, rfl, hf9_0, by rw [ht]; exact hP9, va_K.moved hW.alike hK, hD9⟩, hS.F ht⟩) hS.2.2 dX6_putCrash_19
    ·
      exact absurd c_6 (by decide)

set_option maxHeartbeats 4000000 in
set_option maxRecDepth 100000 in
theorem c_X9_crash (l : Launch) (dC : Nat → ClassId) (dI : Nat → Nat → Nat) (cI cZ : ClassId) (sz : Nat) (h0 : Nat) (x_riders : Nat) (x_road : Nat) (x_tape : Nat) (x_book : Nat) (x_reader : Nat) (x_latest : Nat) (x_log : Nat) (x_trial : Nat) (x_stages : Nat) (x_ro_rises : Nat) (x_ro_winds : Nat) (x_ro_primeMetres : Nat) (pM : Int32) (pM_i : Int) (pM_h : pM.toInt = pM_i) (pA : Int32) (pA_i : Int) (pA_h : pA.toInt = pA_i) : Met l yX9_crash (Cond.code yX9_crash cX9_crash 3 (some .boolean) :: lw_good) ({ frames := 3, cells := 0, slots := 0, locals := 63 }) (va_Pc [.ref h0, .int pM, .int pA] (fun U => U.heap.size = sz ∧ va_P (dC, dI) vwCl [(h0, .inr (9, [.ref x_riders, .ref x_road, .ref x_tape, .ref x_book, .ref x_reader, .ref x_latest, .ref x_log, .ref x_trial, .ref x_stages, .int 0, .int 0, .int 0])), (x_road, .inr (6, [.int 1, .ref x_ro_rises, .ref x_ro_winds, .int 0, .ref x_ro_primeMetres, .int 0, .int 0])), (x_ro_rises, .inl (cI, 30, .inl (fun _ => 0))), (x_ro_winds, .inl (cI, 30, .inl (fun _ => 0))), (x_ro_primeMetres, .inl (cI, 5, .inl (fun _ => 0)))] U.heap ∧ va_K (dC, dI) vwCl [(cI, .int), (cZ, .boolean)] U ∧ va_D (fun _ => True) [(h0, .inr (9, [.ref x_riders, .ref x_road, .ref x_tape, .ref x_book, .ref x_reader, .ref x_latest, .ref x_log, .ref x_trial, .ref x_stages, .int 0, .int 0, .int 0])), (x_road, .inr (6, [.int 1, .ref x_ro_rises, .ref x_ro_winds, .int 0, .ref x_ro_primeMetres, .int 0, .int 0])), (x_ro_rises, .inl (cI, 30, .inl (fun _ => 0))), (x_ro_winds, .inl (cI, 30, .inl (fun _ => 0))), (x_ro_primeMetres, .inl (cI, 5, .inl (fun _ => 0)))])) (va_Qi (fun (r u : Int32) => r = u) (fun u t => ((u = 1 ∧ (1 ≤ pM_i ∧ pM_i ≤ 999 ∧ 0 ≤ pA_i ∧ pA_i ≤ 100)) ∨ (u = 0 ∧ ¬ (1 ≤ pM_i ∧ pM_i ≤ 999 ∧ 0 ≤ pA_i ∧ pA_i ≤ 100))) ∧ va_P (dC, dI) vwCl [] t.heap ∧ va_K (dC, dI) vwCl [(cI, .int), (cZ, .boolean)] t ∧ va_D (va_A [(h0, .inr (9, [.ref x_riders, .ref x_road, .ref x_tape, .ref x_book, .ref x_reader, .ref x_latest, .ref x_log, .ref x_trial, .ref x_stages, .int 0, .int 0, .int 0])), (x_road, .inr (6, [.int 1, .ref x_ro_rises, .ref x_ro_winds, .int 0, .ref x_ro_primeMetres, .int 0, .int 0])), (x_ro_rises, .inl (cI, 30, .inl (fun _ => 0))), (x_ro_winds, .inl (cI, 30, .inl (fun _ => 0))), (x_ro_primeMetres, .inl (cI, 5, .inl (fun _ => 0)))] sz) []) (va_A [(h0, .inr (9, [.ref x_riders, .ref x_road, .ref x_tape, .ref x_book, .ref x_reader, .ref x_latest, .ref x_log, .ref x_trial, .ref x_stages, .int 0, .int 0, .int 0])), (x_road, .inr (6, [.int 1, .ref x_ro_rises, .ref x_ro_winds, .int 0, .ref x_ro_primeMetres, .int 0, .int 0])), (x_ro_rises, .inl (cI, 30, .inl (fun _ => 0))), (x_ro_winds, .inl (cI, 30, .inl (fun _ => 0))), (x_ro_primeMetres, .inl (cI, 5, .inl (fun _ => 0)))] sz)) 0 0 (va_A [(h0, .inr (9, [.ref x_riders, .ref x_road, .ref x_tape, .ref x_book, .ref x_reader, .ref x_latest, .ref x_log, .ref x_trial, .ref x_stages, .int 0, .int 0, .int 0])), (x_road, .inr (6, [.int 1, .ref x_ro_rises, .ref x_ro_winds, .int 0, .ref x_ro_primeMetres, .int 0, .int 0])), (x_ro_rises, .inl (cI, 30, .inl (fun _ => 0))), (x_ro_winds, .inl (cI, 30, .inl (fun _ => 0))), (x_ro_primeMetres, .inl (cI, 5, .inl (fun _ => 0)))] sz) := by
  refine Met.ofW (cc := cX9_crash) (maxL := 3) (ret := (some .boolean)) (by decide) rfl ?_
  intro p e s m args below meth c s₁ B hml hv
  obtain ⟨rfl, hsz, hP, hK, hD0⟩ := hv
  have hx := B.exec
  have hb := B.bytes
  have hr := B.returns
  have hts := atoms_spec (ws := Cond.code yX9_crash cX9_crash 3 (some .boolean) :: lw_good) B.pre
  have hown : s.vm.findClass RX9 = some m.cls := findClass_of_methodNamed B.named
  have hlocks := B.notSynchronized
  have hiX9 : ∀ w ∈ wsX90, w ∈ (Cond.code yX9_crash cX9_crash 3 (some .boolean) :: lw_good) := fun w h => List.mem_cons_of_mem _ (zi_X9 w h)
  have hw0 := hts (.fieldLink RX9 19 "BunchRace" "road" "LBunchRace$Road;") (List.mem_cons_of_mem _ zw_335)
  have hw1 := hts (.initialized RX6) (List.mem_cons_of_mem _ zw_50)
  have hw2 := hts (.methodLink RX9 98 yX6_putCrash) (List.mem_cons_of_mem _ zw_418)
  have hw3 := hts (.instanceMethod yX6_putCrash) (List.mem_cons_of_mem _ zw_419)
  have hw4 := hts (.selects RX6 yX6_putCrash yX6_putCrash) (List.mem_cons_of_mem _ zw_420)
  subst hsz
  have hD := hD0.self (sz := s.heap.size)
  generalize hAe : va_A [(h0, .inr (9, [.ref x_riders, .ref x_road, .ref x_tape, .ref x_book, .ref x_reader, .ref x_latest, .ref x_log, .ref x_trial, .ref x_stages, .int 0, .int 0, .int 0])), (x_road, .inr (6, [.int 1, .ref x_ro_rises, .ref x_ro_winds, .int 0, .ref x_ro_primeMetres, .int 0, .int 0])), (x_ro_rises, .inl (cI, 30, .inl (fun _ => 0))), (x_ro_winds, .inl (cI, 30, .inl (fun _ => 0))), (x_ro_primeMetres, .inl (cI, 5, .inl (fun _ => 0)))] s.heap.size = A at hD ⊢
  have hA : ∀ q : Nat, s.heap.size ≤ q → A q := fun q h => by rw [← hAe]; exact Or.inr h
  have hS : va_S A s.heap s.heap [] := va_S.rf
  have hP : va_P (dC, dI) vwCl [(h0, .inr (9, [.ref x_riders, .ref x_road, .ref x_tape, .ref x_book, .ref x_reader, .ref x_latest, .ref x_log, .ref x_trial, .ref x_stages, .int 0, .int 0, .int 0])), (x_road, .inr (6, [.int 1, .ref x_ro_rises, .ref x_ro_winds, .int 0, .ref x_ro_primeMetres, .int 0, .int 0])), (x_ro_rises, .inl (cI, 30, .inl (fun _ => 0))), (x_ro_winds, .inl (cI, 30, .inl (fun _ => 0))), (x_ro_primeMetres, .inl (cI, 5, .inl (fun _ => 0)))] s.heap := hP
  have hl := lv_entry ([.ref h0, .int pM, .int pA]) (n := 3) (Nat.le_of_ble_eq_true rfl)
  rw [lg_entry_eq]
  generalize (lg_sl ([.ref h0, .int pM, .int pA]) ++ List.replicate (3 - (lg_sl ([.ref h0, .int pM, .int pA])).length) Slot.unset).toArray = ls at hl ⊢
  have hl : lv_has ls 3 [(0, .ref h0), (1, .int pM), (2, .int pA)] := hl
  refine lv_aload_n hx hb dX9_crash_0 rfl (lv_at hl 0 rfl) ?_
  refine va_get (D := (dC, dI)) (ci := 9) (v := .ref x_road) (C := RX9) (T := TX9) (N := 12) hx hb hts hiX9 hown hK hP 0 rfl rfl 1 (by decide) hw0 (fun _ h9 => h9) rfl dX9_crash_1 ?_
  refine lv_iload_n hx hb dX9_crash_4 rfl (lv_at hl 1 rfl) ?_
  refine lv_iload_n hx hb dX9_crash_5 rfl (lv_at hl 2 rfl) ?_
  have hPc := hP.sub (ws' := [(x_road, .inr (6, [.int 1, .ref x_ro_rises, .ref x_ro_winds, .int 0, .ref x_ro_primeMetres, .int 0, .int 0]))]) [1] rfl
  have hDc := hD.sub (ws' := [(x_road, .inr (6, [.int 1, .ref x_ro_rises, .ref x_ro_winds, .int 0, .ref x_ro_primeMetres, .int 0, .int 0]))]) [1] (by decide) rfl
  have hFc := va_free (wc := [(x_road, .inr (6, [.int 1, .ref x_ro_rises, .ref x_ro_winds, .int 0, .ref x_ro_primeMetres, .int 0, .int 0]))]) hD hS hA [1] rfl
  refine va_calli (va_runV (As := [.int pM, .int pA]) (rest := []) ⟨hx, hb, hml, hown, hts⟩ (c_X6_putCrash l dC dI cI cZ (s.heap).size x_road x_ro_rises x_ro_winds x_ro_primeMetres pM pM_i pM_h pA pA_i pA_h) ⟨callB_of 2 hts (zz_good zw_421) rfl rfl rfl hw1 hw2 (by decide +kernel) ⟨Nat.le_of_ble_eq_true rfl, Nat.le_of_ble_eq_true rfl⟩, hw3, hw4⟩ ⟨fun a U g mk q => by obtain ⟨q0, q1, qP, qK, qD⟩ := q; exact ⟨q0, q1, qP, va_K.moved (u := U) (U := U.calling g mk a) (Vm.Alike.refl U.vm) qK, qD⟩, va_recv hK hPc (ci := 6) (q0 := 0) rfl rfl, fun U hU hW => ⟨rfl, by rw [hU], by rw [hU]; exact hPc, va_K.moved hW.alike hK, hDc.weaken (fun _ _ _ _ => trivial)⟩⟩ rfl rfl hl.1 rfl (lv_room (Nat.le_of_ble_eq_true rfl)) dX9_crash_6 ⟨Nat.le_of_ble_eq_true rfl, Nat.le_of_ble_eq_true rfl⟩) hS (fun q _ h => hFc q h) hFc (fun r_1 u t H1 locs ht hvm hpost hB hz1 hk1 hS => ?_)
  subst hpost
  obtain ⟨hf_2, hP1, hK1, hD1⟩ := hB
  rw [ht] at hP1
  obtain ⟨hP, hD⟩ := va_join (wr := [(h0, .inr (9, [.ref x_riders, .ref x_road, .ref x_tape, .ref x_book, .ref x_reader, .ref x_latest, .ref x_log, .ref x_trial, .ref x_stages, .int 0, .int 0, .int 0])), (x_ro_rises, .inl (cI, 30, .inl (fun _ => 0))), (x_ro_winds, .inl (cI, 30, .inl (fun _ => 0))), (x_ro_primeMetres, .inl (cI, 5, .inl (fun _ => 0)))]) (w1 := []) hP hD [1] [0, 2, 3, 4] rfl rfl (by decide) (by decide) hk1 hFc hP1 hD1
  generalize H1 = H at hP hS ⊢
  have hP : va_P (dC, dI) vwCl [(h0, .inr (9, [.ref x_riders, .ref x_road, .ref x_tape, .ref x_book, .ref x_reader, .ref x_latest, .ref x_log, .ref x_trial, .ref x_stages, .int 0, .int 0, .int 0])), (x_ro_rises, .inl (cI, 30, .inl (fun _ => 0))), (x_ro_winds, .inl (cI, 30, .inl (fun _ => 0))), (x_ro_primeMetres, .inl (cI, 5, .inl (fun _ => 0)))] H := hP
  have hD : va_D A [(h0, .inr (9, [.ref x_riders, .ref x_road, .ref x_tape, .ref x_book, .ref x_reader, .ref x_latest, .ref x_log, .ref x_trial, .ref x_stages, .int 0, .int 0, .int 0])), (x_ro_rises, .inl (cI, 30, .inl (fun _ => 0))), (x_ro_winds, .inl (cI, 30, .inl (fun _ => 0))), (x_ro_primeMetres, .inl (cI, 5, .inl (fun _ => 0)))] := hD
  have hf_2 : (r_1 = 1 ∧ (1 ≤ pM_i ∧ pM_i ≤ 999 ∧ 0 ≤ pA_i ∧ pA_i ≤ 100)) ∨ (r_1 = 0 ∧ ¬ (1 ≤ pM_i ∧ pM_i ≤ 999 ∧ 0 ≤ pA_i ∧ pA_i ≤ 100)) := hf_2
  rcases hf_2 with ⟨rfl, hf_2⟩ | ⟨rfl, hf_2⟩
  ·
    have hP9 := hP.sub (ws' := []) [] rfl
    have hD9 := hD.sub (ws' := []) [] (by decide) rfl
    refine W.widen (k := 0) (n := 0) (Nat.le_of_ble_eq_true rfl) (Nat.le_of_ble_eq_true rfl) ?_
    have hu9 : (1 : Int32).toInt = (1:Int) := (by decide)
    have hf9_0 : ((1 : Int32) = 1 ∧ (1 ≤ pM_i ∧ pM_i ≤ 999 ∧ 0 ≤ pA_i ∧ pA_i ≤ 100)) ∨ ((1 : Int32) = 0 ∧ ¬ (1 ≤ pM_i ∧ pM_i ≤ 999 ∧ 0 ≤ pA_i ∧ pA_i ≤ 100)) := Or.inl ⟨rfl, by omega⟩
    exact W.zret (v := 1) hx hb hr rfl (fun t ht hW => ⟨⟨1, 1, rfl, rfl, hf9_0, by rw [ht]; exact hP9, va_K.moved hW.alike hK, hD9⟩, hS.F ht⟩) hS.2.2 dX9_crash_9
  ·
    have hP9 := hP.sub (ws' := []) [] rfl
    have hD9 := hD.sub (ws' := []) [] (by decide) rfl
    refine W.widen (k := 0) (n := 0) (Nat.le_of_ble_eq_true rfl) (Nat.le_of_ble_eq_true rfl) ?_
    have hu9 : (0 : Int32).toInt = (0:Int) := (by decide)
    have hf9_0 : ((0 : Int32) = 1 ∧ (1 ≤ pM_i ∧ pM_i ≤ 999 ∧ 0 ≤ pA_i ∧ pA_i ≤ 100)) ∨ ((0 : Int32) = 0 ∧ ¬ (1 ≤ pM_i ∧ pM_i ≤ 999 ∧ 0 ≤ pA_i ∧ pA_i ≤ 100)) := Or.inr ⟨rfl, by omega⟩
    exact W.zret (v := 0) hx hb hr rfl (fun t ht hW => ⟨⟨0, 0, rfl, rfl, hf9_0, by rw [ht]; exact hP9, va_K.moved hW.alike hK, hD9⟩, hS.F ht⟩) hS.2.2 dX9_crash_9
