/-! THE CLAIM OUT OF ONE WALK OF THE LAW'S BODY. Your part is whole_start (and what it stands on); all else here is the same for every law, but numbers. -/
def R_law : String := "BunchRaceLaw"
def lw_P (b : Addr) (xs : List Int32) (args : Array Value) (s : State) : Prop := args = #[.ref b] ∧ s.IntsAt b xs ∧ xs.length ≤ 7 ∧ (Jvm.Cond.and given_1 narrow_1).before args s = true
def lw_Q (_ : Array Value) (s : State) (o : Outcome) (t : State) : Prop := o = .returned (some (.int 1)) ∧ Framed s o t [] 91 20364
def lw_Z (below : List Frame) (a : Array Value) (s : State) : State → Prop := fun t => ∃ o, t.status = .running ∧ Ended t below o ∧ lw_Q a s o t
/-- the law's own end, with 1 on the stack, nothing written that was there before, its room as the claim has it -/
theorem lw_ret {p : Program} {l : Launch} {e : Env} {s : State} {m : MethodId} {below : List Frame} {meth : Method} {c : Code} {b : Nat} (hx : p.tables.exec = Jvm.exec) (hb : c.code = code) (hr : meth.sig.returnType = ret) (hlocks : meth.locks = false) {pc : Nat} {H : Heap} {ls : Array Slot} (hdg : decode code pc = .ok (.ireturn, 1)) : W p l e room_1 s m #[Value.ref b] below meth c H [] 91 20364 (lw_Z below #[Value.ref b] s) (F0 m pc ls [.int 1]) := by
  intro T hT X
  obtain ⟨fs, hret, hrun, hended, hW, hframe⟩ := X.leave (v := some (.int 1)) (hlocks := hlocks) (fun h => by rw [hr] at h; cases h)
  have hmeth' : T.vm.method? m = some meth := X.method'
  refine ⟨T.setFrames fs, ?_, .returned (some (.int 1)), hrun, hended, rfl, ⟨_, rfl⟩, hW, hframe⟩
  jvm_step X.here [X.here.top, hx, hb, hdg, hmeth', hr, ret, narrow_b1]
  (try refine ⟨rfl, ?_⟩); (try refine ⟨rfl, ?_⟩)
  first | (intro acts; rw [hret _ acts rfl rfl rfl]) | rw [hret _ _ rfl rfl rfl]
  exact Steps.refl _
/-- what holds at the law's entry: the machine, the code, the tables' words (any of lw_tbl by 'hts w (by decide +kernel)'), the script of L ints xs at the cell b, what the Statement gives of the start (any of its parts by flat_of_before) -/
def lw_At (p : Program) (s : State) (m : MethodId) (meth : Method) (c : Code) (b L : Nat) (xs : Nat → Int32) : Prop :=
  p.tables.exec = Jvm.exec ∧ c.code = code ∧ meth.sig.returnType = ret ∧ c.maxLocals = 4 ∧ s.vm.findClass R_law = some m.cls ∧ (∀ w ∈ lw_tbl, w.before #[Value.ref b] s = true) ∧ va_X b L xs s s.heap ∧ b < s.heap.size ∧ meth.locks = false ∧ (Jvm.Cond.and given_1 narrow_1).before #[Value.ref b] s = true

set_option maxHeartbeats 16000000 in
set_option maxRecDepth 100000 in
theorem whole_start {p : Program} {e : Env} {s : State} {m : MethodId} {below : List Frame} {meth : Method} {c : Code} (l : Launch) {b L : Nat} {xs : Nat → Int32} (hL : L ≤ 7) (C0 : lw_At p s m meth c b L xs) : W p l e room_1 s m #[Value.ref b] below meth c s.heap [] 0 0 (lw_Z below #[Value.ref b] s) (entryFrame m ([Value.ref b] : List Value).toArray 4) := by
  obtain ⟨hx, hb, hr, hml, hown, hts, hX, hbl, hlocks, hgv⟩ := id C0
  have hA : ∀ q : Nat, s.heap.size ≤ q → (fun q : Nat => s.heap.size ≤ q) q := fun _ h => h
  have hbA : ¬ (fun q : Nat => s.heap.size ≤ q) b := Nat.not_le.mpr hbl
  obtain ⟨c0, iS0, hKn0⟩ := u_known (C := RX0) (T := TX0) (N := 5) (n := 5) hts (fun w h => (List.mem_filter.mp (zi_X0 w h)).1) (hts (.instantiable RX0 5) (List.mem_filter.mp zw_202).1)
  obtain ⟨c1, iS1, hKn1⟩ := u_known (C := RX1) (T := TX1) (N := 5) (n := 5) hts (fun w h => (List.mem_filter.mp (zi_X1 w h)).1) (hts (.instantiable RX1 5) (List.mem_filter.mp zw_152).1)
  obtain ⟨c2, iS2, hKn2⟩ := u_known (C := RX2) (T := TX2) (N := 5) (n := 5) hts (fun w h => (List.mem_filter.mp (zi_X2 w h)).1) (hts (.instantiable RX2 5) (List.mem_filter.mp zw_174).1)
  obtain ⟨c3, iS3, hKn3⟩ := u_known (C := RX3) (T := TX3) (N := 16) (n := 16) hts (fun w h => (List.mem_filter.mp (zi_X3 w h)).1) (hts (.instantiable RX3 16) (List.mem_filter.mp zw_196).1)
  obtain ⟨c4, iS4, hKn4⟩ := u_known (C := RX4) (T := TX4) (N := 2) (n := 2) hts (fun w h => (List.mem_filter.mp (zi_X4 w h)).1) (hts (.instantiable RX4 2) (List.mem_filter.mp zw_293).1)
  obtain ⟨c5, iS5, hKn5⟩ := u_known (C := RX5) (T := TX5) (N := 5) (n := 5) hts (fun w h => (List.mem_filter.mp (zi_X5 w h)).1) (hts (.instantiable RX5 5) (List.mem_filter.mp zw_69).1)
  obtain ⟨c6, iS6, hKn6⟩ := u_known (C := RX6) (T := TX6) (N := 7) (n := 7) hts (fun w h => (List.mem_filter.mp (zi_X6 w h)).1) (hts (.instantiable RX6 7) (List.mem_filter.mp zw_100).1)
  obtain ⟨c7, iS7, hKn7⟩ := u_known (C := RX7) (T := TX7) (N := 5) (n := 5) hts (fun w h => (List.mem_filter.mp (zi_X7 w h)).1) (hts (.instantiable RX7 5) (List.mem_filter.mp zw_308).1)
  obtain ⟨c8, iS8, hKn8⟩ := u_known (C := RX8) (T := TX8) (N := 2) (n := 2) hts (fun w h => (List.mem_filter.mp (zi_X8 w h)).1) (hts (.instantiable RX8 2) (List.mem_filter.mp zw_136).1)
  obtain ⟨c9, iS9, hKn9⟩ := u_known (C := RX9) (T := TX9) (N := 12) (n := 12) hts (fun w h => (List.mem_filter.mp (zi_X9 w h)).1) (hts (.instantiable RX9 12) (List.mem_filter.mp zw_61).1)
  obtain ⟨c10, iS10, hKn10⟩ := u_known (C := RX10) (T := TX10) (N := 52) (n := 52) hts (fun w h => (List.mem_filter.mp (zi_X10 w h)).1) (hts (.instantiable RX10 52) (List.mem_filter.mp zw_732).1)
  obtain ⟨cI, kI, compI, hI1, hI2, hI3⟩ := Cond.arrayClass_spec (hts (.arrayClass .int) (List.mem_filter.mp zw_98).1)
  obtain ⟨cZ, kZ, compZ, hZ1, hZ2, hZ3⟩ := Cond.arrayClass_spec (hts (.arrayClass .boolean) (List.mem_filter.mp zw_228).1)
  obtain ⟨dC, dI, hKc⟩ : ∃ (dC : Nat → ClassId) (dI : Nat → Nat → Nat), ∀ (k : Nat) (q : vw_C), vwCl[k]? = some q → u_Kn s q.1 q.2.1 q.2.2 (dC k) (dI k) := by
    refine ⟨fun k => if k = 0 then c0 else if k = 1 then c1 else if k = 2 then c2 else if k = 3 then c3 else if k = 4 then c4 else if k = 5 then c5 else if k = 6 then c6 else if k = 7 then c7 else if k = 8 then c8 else if k = 9 then c9 else c10, fun k => if k = 0 then iS0 else if k = 1 then iS1 else if k = 2 then iS2 else if k = 3 then iS3 else if k = 4 then iS4 else if k = 5 then iS5 else if k = 6 then iS6 else if k = 7 then iS7 else if k = 8 then iS8 else if k = 9 then iS9 else iS10, ?_⟩
    intro k q hq
    match k, hq with
    | 0, hq => cases hq; exact hKn0
    | 1, hq => cases hq; exact hKn1
    | 2, hq => cases hq; exact hKn2
    | 3, hq => cases hq; exact hKn3
    | 4, hq => cases hq; exact hKn4
    | 5, hq => cases hq; exact hKn5
    | 6, hq => cases hq; exact hKn6
    | 7, hq => cases hq; exact hKn7
    | 8, hq => cases hq; exact hKn8
    | 9, hq => cases hq; exact hKn9
    | 10, hq => cases hq; exact hKn10
    | k + 11, hq => simp [vwCl] at hq
  have hS : va_S (fun q : Nat => s.heap.size ≤ q) s.heap s.heap [] := va_S.rf
  have hK : va_K (dC, dI) vwCl [(cI, .int), (cZ, .boolean)] s := ⟨hKc, fun k q h => by
    match k, h with
    | 0, h => cases h; exact ⟨fun n z => ⟨fun k h => (by cases h), kI, hI2, compI, hI3⟩, hI1⟩
    | 1, h => cases h; exact ⟨fun n z => ⟨fun k h => (by cases h), kZ, hZ2, compZ, hZ3⟩, hZ1⟩
    | k + 2, h => simp at h⟩
  have hP : va_P (dC, dI) vwCl [] s.heap := fun k q h => by simp at h
  have hD : va_D (fun q : Nat => s.heap.size ≤ q) [] := ⟨fun i j p q h => by simp at h, fun k q h => by simp at h⟩
  have hiX10 : ∀ w ∈ wsX100, w ∈ lw_tbl := fun w h => (List.mem_filter.mp (zi_X10 w h)).1
  have hiX9 : ∀ w ∈ wsX90, w ∈ lw_tbl := fun w h => (List.mem_filter.mp (zi_X9 w h)).1
  have hw0 := hts (.classLink RL 7 RX9) (List.mem_filter.mp zw_60).1
  have hw1 := hts (.instantiable RX9 12) (List.mem_filter.mp zw_61).1
  have hw2 := hts (.initialized RX9) (List.mem_filter.mp zw_48).1
  have hw3 := hts (.methodLink RL 9 yX9_init) (List.mem_filter.mp zw_62).1
  have hw4 := hts (.instanceMethod yX9_init) (List.mem_filter.mp zw_63).1
  have hw5 := hts (.classLink RL 10 RX10) (List.mem_filter.mp zw_731).1
  have hw6 := hts (.instantiable RX10 52) (List.mem_filter.mp zw_732).1
  have hw7 := hts (.initialized RX10) (List.mem_filter.mp zw_58).1
  have hw8 := hts (.methodLink RL 12 yX10_init) (List.mem_filter.mp zw_733).1
  have hw9 := hts (.instanceMethod yX10_init) (List.mem_filter.mp zw_734).1
  have hw10 := hts (.methodLink RL 13 yX9_rider) (List.mem_filter.mp zw_371).1
  have hw11 := hts (.instanceMethod yX9_rider) (List.mem_filter.mp zw_372).1
  have hw12 := hts (.selects RX9 yX9_rider yX9_rider) (List.mem_filter.mp zw_373).1
  have hw13 := hts (.methodLink RL 17 yX10_rider) (List.mem_filter.mp zw_894).1
  have hw14 := hts (.instanceMethod yX10_rider) (List.mem_filter.mp zw_895).1
  have hw15 := hts (.selects RX10 yX10_rider yX10_rider) (List.mem_filter.mp zw_896).1
  have hw16 := hts (.methodLink RL 18 yX9_road) (List.mem_filter.mp zw_382).1
  have hw17 := hts (.instanceMethod yX9_road) (List.mem_filter.mp zw_383).1
  have hw18 := hts (.selects RX9 yX9_road yX9_road) (List.mem_filter.mp zw_384).1
  have hw19 := hts (.methodLink RL 22 yX10_road) (List.mem_filter.mp zw_901).1
  have hw20 := hts (.instanceMethod yX10_road) (List.mem_filter.mp zw_902).1
  have hw21 := hts (.selects RX10 yX10_road yX10_road) (List.mem_filter.mp zw_903).1
  have hw22 := hts (.methodLink RL 23 yX9_rise) (List.mem_filter.mp zw_390).1
  have hw23 := hts (.instanceMethod yX9_rise) (List.mem_filter.mp zw_391).1
  have hw24 := hts (.selects RX9 yX9_rise yX9_rise) (List.mem_filter.mp zw_392).1
  have hw25 := hts (.methodLink RL 27 yX10_rise) (List.mem_filter.mp zw_905).1
  have hw26 := hts (.instanceMethod yX10_rise) (List.mem_filter.mp zw_906).1
  have hw27 := hts (.selects RX10 yX10_rise yX10_rise) (List.mem_filter.mp zw_907).1
  have hw28 := hts (.methodLink RL 28 yX9_prime) (List.mem_filter.mp zw_398).1
  have hw29 := hts (.instanceMethod yX9_prime) (List.mem_filter.mp zw_399).1
  have hw30 := hts (.selects RX9 yX9_prime yX9_prime) (List.mem_filter.mp zw_400).1
  have hw31 := hts (.methodLink RL 32 yX10_prime) (List.mem_filter.mp zw_909).1
  have hw32 := hts (.instanceMethod yX10_prime) (List.mem_filter.mp zw_910).1
  have hw33 := hts (.selects RX10 yX10_prime yX10_prime) (List.mem_filter.mp zw_911).1
  have hw34 := hts (.methodLink RL 33 yX9_crash) (List.mem_filter.mp zw_414).1
  have hw35 := hts (.instanceMethod yX9_crash) (List.mem_filter.mp zw_415).1
  have hw36 := hts (.selects RX9 yX9_crash yX9_crash) (List.mem_filter.mp zw_416).1
  have hw37 := hts (.methodLink RL 37 yX10_crash) (List.mem_filter.mp zw_917).1
  have hw38 := hts (.instanceMethod yX10_crash) (List.mem_filter.mp zw_918).1
  have hw39 := hts (.selects RX10 yX10_crash yX10_crash) (List.mem_filter.mp zw_919).1
  have hw40 := hts (.methodLink RL 38 yX9_feed) (List.mem_filter.mp zw_422).1
  have hw41 := hts (.instanceMethod yX9_feed) (List.mem_filter.mp zw_423).1
  have hw42 := hts (.selects RX9 yX9_feed yX9_feed) (List.mem_filter.mp zw_424).1
  have hw43 := hts (.methodLink RL 42 yX10_feed) (List.mem_filter.mp zw_921).1
  have hw44 := hts (.instanceMethod yX10_feed) (List.mem_filter.mp zw_922).1
  have hw45 := hts (.selects RX10 yX10_feed yX10_feed) (List.mem_filter.mp zw_923).1
  have hw46 := hts (.methodLink RL 43 yX9_end) (List.mem_filter.mp zw_438).1
  have hw47 := hts (.instanceMethod yX9_end) (List.mem_filter.mp zw_439).1
  have hw48 := hts (.selects RX9 yX9_end yX9_end) (List.mem_filter.mp zw_440).1
  have hw49 := hts (.methodLink RL 46 yX10_end) (List.mem_filter.mp zw_928).1
  have hw50 := hts (.instanceMethod yX10_end) (List.mem_filter.mp zw_929).1
  have hw51 := hts (.selects RX10 yX10_end yX10_end) (List.mem_filter.mp zw_930).1
  have hw52 := hts (.methodLink RL 47 yX9_fault) (List.mem_filter.mp zw_442).1
  have hw53 := hts (.instanceMethod yX9_fault) (List.mem_filter.mp zw_443).1
  have hw54 := hts (.selects RX9 yX9_fault yX9_fault) (List.mem_filter.mp zw_444).1
  have hw55 := hts (.methodLink RL 51 yX10_fault) (List.mem_filter.mp zw_932).1
  have hw56 := hts (.instanceMethod yX10_fault) (List.mem_filter.mp zw_933).1
  have hw57 := hts (.selects RX10 yX10_fault yX10_fault) (List.mem_filter.mp zw_934).1
  have hw58 := hts (.methodLink RL 52 yX9_orders) (List.mem_filter.mp zw_492).1
  have hw59 := hts (.instanceMethod yX9_orders) (List.mem_filter.mp zw_493).1
  have hw60 := hts (.selects RX9 yX9_orders yX9_orders) (List.mem_filter.mp zw_494).1
  have hw61 := hts (.methodLink RL 55 yX10_orders) (List.mem_filter.mp zw_947).1
  have hw62 := hts (.instanceMethod yX10_orders) (List.mem_filter.mp zw_948).1
  have hw63 := hts (.selects RX10 yX10_orders yX10_orders) (List.mem_filter.mp zw_949).1
  have hw64 := hts (.methodLink RL 56 yX9_choice) (List.mem_filter.mp zw_501).1
  have hw65 := hts (.instanceMethod yX9_choice) (List.mem_filter.mp zw_502).1
  have hw66 := hts (.selects RX9 yX9_choice yX9_choice) (List.mem_filter.mp zw_503).1
  have hw67 := hts (.methodLink RL 59 yX10_choice) (List.mem_filter.mp zw_956).1
  have hw68 := hts (.instanceMethod yX10_choice) (List.mem_filter.mp zw_957).1
  have hw69 := hts (.selects RX10 yX10_choice yX10_choice) (List.mem_filter.mp zw_958).1
  have hw70 := hts (.constantLong RL 60 4294967295) (List.mem_filter.mp zw_1093).1
  have hw71 := hts (.methodLink RL 62 yX9_race) (List.mem_filter.mp zw_505).1
  have hw72 := hts (.instanceMethod yX9_race) (List.mem_filter.mp zw_506).1
  have hw73 := hts (.selects RX9 yX9_race yX9_race) (List.mem_filter.mp zw_507).1
  have hw74 := hts (.methodLink RL 66 yX10_race) (List.mem_filter.mp zw_960).1
  have hw75 := hts (.instanceMethod yX10_race) (List.mem_filter.mp zw_961).1
  have hw76 := hts (.selects RX10 yX10_race yX10_race) (List.mem_filter.mp zw_962).1
  have hw77 := hts (.methodLink RL 67 yX9_told) (List.mem_filter.mp zw_595).1
  have hw78 := hts (.instanceMethod yX9_told) (List.mem_filter.mp zw_596).1
  have hw79 := hts (.selects RX9 yX9_told yX9_told) (List.mem_filter.mp zw_597).1
  have hw80 := hts (.methodLink RL 71 yX10_told) (List.mem_filter.mp zw_1025).1
  have hw81 := hts (.instanceMethod yX10_told) (List.mem_filter.mp zw_1026).1
  have hw82 := hts (.selects RX10 yX10_told yX10_told) (List.mem_filter.mp zw_1027).1
  have hw83 := hts (.methodLink RL 72 yX9_at) (List.mem_filter.mp zw_614).1
  have hw84 := hts (.instanceMethod yX9_at) (List.mem_filter.mp zw_615).1
  have hw85 := hts (.selects RX9 yX9_at yX9_at) (List.mem_filter.mp zw_616).1
  have hw86 := hts (.methodLink RL 75 yX10_at) (List.mem_filter.mp zw_1033).1
  have hw87 := hts (.instanceMethod yX10_at) (List.mem_filter.mp zw_1034).1
  have hw88 := hts (.selects RX10 yX10_at yX10_at) (List.mem_filter.mp zw_1035).1
  have hw89 := hts (.methodLink RL 76 yX9_passed) (List.mem_filter.mp zw_625).1
  have hw90 := hts (.instanceMethod yX9_passed) (List.mem_filter.mp zw_626).1
  have hw91 := hts (.selects RX9 yX9_passed yX9_passed) (List.mem_filter.mp zw_627).1
  have hw92 := hts (.methodLink RL 79 yX10_passed) (List.mem_filter.mp zw_1037).1
  have hw93 := hts (.instanceMethod yX10_passed) (List.mem_filter.mp zw_1038).1
  have hw94 := hts (.selects RX10 yX10_passed yX10_passed) (List.mem_filter.mp zw_1039).1
  have hw95 := hts (.methodLink RL 80 yX9_metres) (List.mem_filter.mp zw_633).1
  have hw96 := hts (.instanceMethod yX9_metres) (List.mem_filter.mp zw_634).1
  have hw97 := hts (.selects RX9 yX9_metres yX9_metres) (List.mem_filter.mp zw_635).1
  have hw98 := hts (.methodLink RL 83 yX10_metres) (List.mem_filter.mp zw_1041).1
  have hw99 := hts (.instanceMethod yX10_metres) (List.mem_filter.mp zw_1042).1
  have hw100 := hts (.selects RX10 yX10_metres yX10_metres) (List.mem_filter.mp zw_1043).1
  have hw101 := hts (.methodLink RL 84 yX9_groups) (List.mem_filter.mp zw_641).1
  have hw102 := hts (.instanceMethod yX9_groups) (List.mem_filter.mp zw_642).1
  have hw103 := hts (.selects RX9 yX9_groups yX9_groups) (List.mem_filter.mp zw_643).1
  have hw104 := hts (.methodLink RL 87 yX10_groups) (List.mem_filter.mp zw_1045).1
  have hw105 := hts (.instanceMethod yX10_groups) (List.mem_filter.mp zw_1046).1
  have hw106 := hts (.selects RX10 yX10_groups yX10_groups) (List.mem_filter.mp zw_1047).1
  have hw107 := hts (.methodLink RL 88 yX9_keep) (List.mem_filter.mp zw_645).1
  have hw108 := hts (.instanceMethod yX9_keep) (List.mem_filter.mp zw_646).1
  have hw109 := hts (.selects RX9 yX9_keep yX9_keep) (List.mem_filter.mp zw_647).1
  have hw110 := hts (.methodLink RL 91 yX10_keep) (List.mem_filter.mp zw_1049).1
  have hw111 := hts (.instanceMethod yX10_keep) (List.mem_filter.mp zw_1050).1
  have hw112 := hts (.selects RX10 yX10_keep yX10_keep) (List.mem_filter.mp zw_1051).1
  have hw113 := hts (.methodLink RL 92 yX9_limit) (List.mem_filter.mp zw_661).1
  have hw114 := hts (.instanceMethod yX9_limit) (List.mem_filter.mp zw_662).1
  have hw115 := hts (.selects RX9 yX9_limit yX9_limit) (List.mem_filter.mp zw_663).1
  have hw116 := hts (.methodLink RL 95 yX10_limit) (List.mem_filter.mp zw_1053).1
  have hw117 := hts (.instanceMethod yX10_limit) (List.mem_filter.mp zw_1054).1
  have hw118 := hts (.selects RX10 yX10_limit yX10_limit) (List.mem_filter.mp zw_1055).1
  have hw119 := hts (.methodLink RL 96 yX9_sum) (List.mem_filter.mp zw_665).1
  have hw120 := hts (.instanceMethod yX9_sum) (List.mem_filter.mp zw_666).1
  have hw121 := hts (.selects RX9 yX9_sum yX9_sum) (List.mem_filter.mp zw_667).1
  have hw122 := hts (.methodLink RL 99 yX10_sum) (List.mem_filter.mp zw_1057).1
  have hw123 := hts (.instanceMethod yX10_sum) (List.mem_filter.mp zw_1058).1
  have hw124 := hts (.selects RX10 yX10_sum yX10_sum) (List.mem_filter.mp zw_1059).1
  have hw125 := hts (.methodLink RL 100 yX9_team) (List.mem_filter.mp zw_677).1
  have hw126 := hts (.instanceMethod yX9_team) (List.mem_filter.mp zw_678).1
  have hw127 := hts (.selects RX9 yX9_team yX9_team) (List.mem_filter.mp zw_679).1
  have hw128 := hts (.methodLink RL 103 yX10_team) (List.mem_filter.mp zw_1069).1
  have hw129 := hts (.instanceMethod yX10_team) (List.mem_filter.mp zw_1070).1
  have hw130 := hts (.selects RX10 yX10_team yX10_team) (List.mem_filter.mp zw_1071).1
  have hw131 := hts (.methodLink RL 104 yX9_attempt) (List.mem_filter.mp zw_693).1
  have hw132 := hts (.instanceMethod yX9_attempt) (List.mem_filter.mp zw_694).1
  have hw133 := hts (.selects RX9 yX9_attempt yX9_attempt) (List.mem_filter.mp zw_695).1
  have hw134 := hts (.methodLink RL 108 yX10_attempt) (List.mem_filter.mp zw_1073).1
  have hw135 := hts (.instanceMethod yX10_attempt) (List.mem_filter.mp zw_1074).1
  have hw136 := hts (.selects RX10 yX10_attempt yX10_attempt) (List.mem_filter.mp zw_1075).1
  have hw137 := hts (.methodLink RL 109 yX9_best) (List.mem_filter.mp zw_719).1
  have hw138 := hts (.instanceMethod yX9_best) (List.mem_filter.mp zw_720).1
  have hw139 := hts (.selects RX9 yX9_best yX9_best) (List.mem_filter.mp zw_721).1
  have hw140 := hts (.methodLink RL 113 yX10_best) (List.mem_filter.mp zw_1085).1
  have hw141 := hts (.instanceMethod yX10_best) (List.mem_filter.mp zw_1086).1
  have hw142 := hts (.selects RX10 yX10_best yX10_best) (List.mem_filter.mp zw_1087).1
  have hw143 := hts (.methodLink RL 114 yX9_count) (List.mem_filter.mp zw_723).1
  have hw144 := hts (.instanceMethod yX9_count) (List.mem_filter.mp zw_724).1
  have hw145 := hts (.selects RX9 yX9_count yX9_count) (List.mem_filter.mp zw_725).1
  have hw146 := hts (.methodLink RL 117 yX10_count) (List.mem_filter.mp zw_1089).1
  have hw147 := hts (.instanceMethod yX10_count) (List.mem_filter.mp zw_1090).1
  have hw148 := hts (.selects RX10 yX10_count yX10_count) (List.mem_filter.mp zw_1091).1
  have hnX9_11 : va_Nw (.methodLinkNest RX9 11 yX5_init "BunchRace") s := va_Nw.of rfl (hts (.methodLinkNest RX9 11 yX5_init "BunchRace") (List.mem_of_getElem? (i := 70) (by decide +kernel)))
  have hnX9_18 : va_Nw (.methodLinkNest RX9 18 yX6_init "BunchRace") s := va_Nw.of rfl (hts (.methodLinkNest RX9 18 yX6_init "BunchRace") (List.mem_of_getElem? (i := 101) (by decide +kernel)))
  have hnX9_25 : va_Nw (.methodLinkNest RX9 25 yX8_init "BunchRace") s := va_Nw.of rfl (hts (.methodLinkNest RX9 25 yX8_init "BunchRace") (List.mem_of_getElem? (i := 137) (by decide +kernel)))
  have hnX9_32 : va_Nw (.methodLinkNest RX9 32 yX1_init "BunchRace") s := va_Nw.of rfl (hts (.methodLinkNest RX9 32 yX1_init "BunchRace") (List.mem_of_getElem? (i := 153) (by decide +kernel)))
  have hnX9_39 : va_Nw (.methodLinkNest RX9 39 yX2_init "BunchRace") s := va_Nw.of rfl (hts (.methodLinkNest RX9 39 yX2_init "BunchRace") (List.mem_of_getElem? (i := 175) (by decide +kernel)))
  have hnX9_46 : va_Nw (.methodLinkNest RX9 46 yX3_init "BunchRace") s := va_Nw.of rfl (hts (.methodLinkNest RX9 46 yX3_init "BunchRace") (List.mem_of_getElem? (i := 197) (by decide +kernel)))
  have hnX3_59 : va_Nw (.methodLinkNest RX3 59 yX0_init "BunchRace") s := va_Nw.of rfl (hts (.methodLinkNest RX3 59 yX0_init "BunchRace") (List.mem_of_getElem? (i := 203) (by decide +kernel)))
  have hnX9_53 : va_Nw (.methodLinkNest RX9 53 yX4_init "BunchRace") s := va_Nw.of rfl (hts (.methodLinkNest RX9 53 yX4_init "BunchRace") (List.mem_of_getElem? (i := 294) (by decide +kernel)))
  have hnX9_63 : va_Nw (.methodLinkNest RX9 63 yX7_init "BunchRace") s := va_Nw.of rfl (hts (.methodLinkNest RX9 63 yX7_init "BunchRace") (List.mem_of_getElem? (i := 309) (by decide +kernel)))
  have hnX5_28 : va_Nw (.methodLinkNest RX5 28 yX9_isTeam "BunchRace") s := va_Nw.of rfl (hts (.methodLinkNest RX5 28 yX9_isTeam "BunchRace") (List.mem_of_getElem? (i := 379) (by decide +kernel)))
  have hl := lv_entry ([.ref b]) (n := 4) (Nat.le_of_ble_eq_true rfl)
  rw [lg_entry_eq]
  generalize (lg_sl ([.ref b]) ++ List.replicate (4 - (lg_sl ([.ref b])).length) Slot.unset).toArray = ls at hl ⊢
  have hl : lv_has ls 4 [(0, .ref b)] := hl
  refine va_new (ci := 9) (fs := [.null, .null, .null, .null, .null, .null, .null, .null, .null, .int 0, .int 0, .int 0]) (C := RX9) (T := TX9) (N := 12) hx hb hts hiX9 tyX9 tyX9_ok hown hw0 hw1 hw2 hK hP hD hS hA rfl zz_dfX9 (Nat.le_of_ble_eq_true rfl) (Nat.le_of_ble_eq_true rfl) dL_law_0 (fun q_1 H hP hD hS => ?_)
  have hP : va_P (dC, dI) vwCl [(q_1, .inr (9, [.null, .null, .null, .null, .null, .null, .null, .null, .null, .int 0, .int 0, .int 0]))] H := hP
  have hD : va_D (fun q : Nat => s.heap.size ≤ q) [(q_1, .inr (9, [.null, .null, .null, .null, .null, .null, .null, .null, .null, .int 0, .int 0, .int 0]))] := hD
  refine lv_dup hx hb dL_law_3 rfl ?_
  have hPc := hP.sub (ws' := [(q_1, .inr (9, [.null, .null, .null, .null, .null, .null, .null, .null, .null, .int 0, .int 0, .int 0]))]) [0] rfl
  have hDc := hD.sub (ws' := [(q_1, .inr (9, [.null, .null, .null, .null, .null, .null, .null, .null, .null, .int 0, .int 0, .int 0]))]) [0] (by decide) rfl
  have hFc := va_free (wc := [(q_1, .inr (9, [.null, .null, .null, .null, .null, .null, .null, .null, .null, .int 0, .int 0, .int 0]))]) hD hS hA [0] rfl
  refine va_callv (va_runI (As := []) (rest := [.ref q_1]) ⟨hx, hb, hml, hown, hts⟩ (c_X9_init l dC dI cI cZ (H).size q_1) ⟨callB_of 0 hts (zz_goodL zw_64) rfl rfl rfl hw2 hw3 (by decide +kernel) ⟨Nat.le_of_ble_eq_true rfl, Nat.le_of_ble_eq_true rfl⟩, rfl, hw4⟩ ⟨fun a U g mk q => by obtain ⟨q0, q1, qP, qK, qD, qN0, qN1, qN2, qN3, qN4, qN5, qN6, qN7, qN8⟩ := q; exact ⟨q0, q1, qP, va_K.moved (u := U) (U := U.calling g mk a) (Vm.Alike.refl U.vm) qK, qD, va_Nw.same rfl rfl qN0, va_Nw.same rfl rfl qN1, va_Nw.same rfl rfl qN2, va_Nw.same rfl rfl qN3, va_Nw.same rfl rfl qN4, va_Nw.same rfl rfl qN5, va_Nw.same rfl rfl qN6, va_Nw.same rfl rfl qN7, va_Nw.same rfl rfl qN8⟩, fun U hU hW => ⟨rfl, by rw [hU], by rw [hU]; exact hPc, va_K.moved hW.alike hK, hDc.weaken (fun _ _ _ _ => trivial), va_Nw.warmM hW hnX9_11, va_Nw.warmM hW hnX9_18, va_Nw.warmM hW hnX9_25, va_Nw.warmM hW hnX9_32, va_Nw.warmM hW hnX9_39, va_Nw.warmM hW hnX9_46, va_Nw.warmM hW hnX3_59, va_Nw.warmM hW hnX9_53, va_Nw.warmM hW hnX9_63⟩⟩ rfl rfl hl.1 rfl (lv_room (Nat.le_of_ble_eq_true rfl)) dL_law_4 ⟨Nat.le_of_ble_eq_true rfl, Nat.le_of_ble_eq_true rfl⟩) hS (fun q _ h => hFc q h) hFc (fun u t H1 locs ht hvm hpost hB hz1 hk1 hS => ?_)
  obtain ⟨x_riders_2, x_ri_teams_3, x_ri_steady_4, x_ri_full_5, x_ri_climb_6, x_road_7, x_ro_rises_8, x_ro_winds_9, x_ro_primeMetres_10, x_tape_11, x_ta_bytes_12, x_book_13, x_bo_clauses_14, x_bo_asked_15, x_bo_signs_16, x_bo_numbers_17, x_bo_paces_18, x_reader_19, x_latest_20, x_la_rides_21, x_la_metres_22, x_la_store_23, x_la_seconds_24, x_la_timesHeld_25, x_la_work_26, x_la_heldFor_27, x_la_primeSeconds_28, x_la_orderRows_29, x_la_bunches_30, x_la_bu_order_31, x_la_bu_places_32, x_la_bu_sizes_33, x_la_values_34, x_log_35, x_lo_metres_36, x_lo_groups_37, x_trial_38, x_tr_rides_39, x_tr_metres_40, x_tr_store_41, x_tr_seconds_42, x_tr_timesHeld_43, x_tr_work_44, x_tr_heldFor_45, x_tr_primeSeconds_46, x_tr_orderRows_47, x_tr_bunches_48, x_tr_bu_order_49, x_tr_bu_places_50, x_tr_bu_sizes_51, x_tr_values_52, x_stages_53, x_sg_totals_54, x_sg_points_55, x_sg_out_56, hP1, hK1, hD1⟩ := hB
  rw [ht] at hP1
  obtain ⟨hP, hD⟩ := va_join (wr := []) (w1 := [(q_1, .inr (9, [.ref x_riders_2, .ref x_road_7, .ref x_tape_11, .ref x_book_13, .ref x_reader_19, .ref x_latest_20, .ref x_log_35, .ref x_trial_38, .ref x_stages_53, .int 0, .int 0, .int 0])), (x_riders_2, .inr (5, [.int 0, .ref x_ri_teams_3, .ref x_ri_steady_4, .ref x_ri_full_5, .ref x_ri_climb_6])), (x_ri_teams_3, .inl (cI, 20, .inl (fun _ => 0))), (x_ri_steady_4, .inl (cI, 20, .inl (fun _ => 0))), (x_ri_full_5, .inl (cI, 20, .inl (fun _ => 0))), (x_ri_climb_6, .inl (cI, 20, .inl (fun _ => 0))), (x_road_7, .inr (6, [.int 1, .ref x_ro_rises_8, .ref x_ro_winds_9, .int 0, .ref x_ro_primeMetres_10, .int 0, .int 0])), (x_ro_rises_8, .inl (cI, 30, .inl (fun _ => 0))), (x_ro_winds_9, .inl (cI, 30, .inl (fun _ => 0))), (x_ro_primeMetres_10, .inl (cI, 5, .inl (fun _ => 0))), (x_tape_11, .inr (8, [.int 0, .ref x_ta_bytes_12])), (x_ta_bytes_12, .inl (cI, 100, .inl (fun _ => 0))), (x_book_13, .inr (1, [.ref x_bo_clauses_14, .ref x_bo_asked_15, .ref x_bo_signs_16, .ref x_bo_numbers_17, .ref x_bo_paces_18])), (x_bo_clauses_14, .inl (cI, 10, .inl (fun _ => 0))), (x_bo_asked_15, .inl (cI, 160, .inl (fun _ => 0))), (x_bo_signs_16, .inl (cI, 160, .inl (fun _ => 0))), (x_bo_numbers_17, .inl (cI, 160, .inl (fun _ => 0))), (x_bo_paces_18, .inl (cI, 160, .inl (fun _ => 0))), (x_reader_19, .inr (2, [.int 0, .int 0, .int 0, .int 0, .int 0])), (x_latest_20, .inr (3, [.int 0, .int 0, .int 0, .long 0, .int 0, .ref x_la_rides_21, .ref x_la_metres_22, .ref x_la_store_23, .ref x_la_seconds_24, .ref x_la_timesHeld_25, .ref x_la_work_26, .ref x_la_heldFor_27, .ref x_la_primeSeconds_28, .ref x_la_orderRows_29, .ref x_la_bunches_30, .ref x_la_values_34])), (x_la_rides_21, .inl (cZ, 20, .inl (fun _ => 0))), (x_la_metres_22, .inl (cI, 20, .inl (fun _ => 0))), (x_la_store_23, .inl (cI, 20, .inl (fun _ => 0))), (x_la_seconds_24, .inl (cI, 20, .inl (fun _ => 0))), (x_la_timesHeld_25, .inl (cI, 20, .inl (fun _ => 0))), (x_la_work_26, .inl (cI, 20, .inl (fun _ => 0))), (x_la_heldFor_27, .inl (cI, 20, .inl (fun _ => 0))), (x_la_primeSeconds_28, .inl (cI, 100, .inl (fun _ => 0))), (x_la_orderRows_29, .inl (cI, 5, .inl (fun _ => 0))), (x_la_bunches_30, .inr (0, [.int 0, .int 0, .ref x_la_bu_order_31, .ref x_la_bu_places_32, .ref x_la_bu_sizes_33])), (x_la_bu_order_31, .inl (cI, 20, .inl (fun _ => 0))), (x_la_bu_places_32, .inl (cI, 20, .inl (fun _ => 0))), (x_la_bu_sizes_33, .inl (cI, 20, .inl (fun _ => 0))), (x_la_values_34, .inl (cI, 5, .inl (fun _ => 0))), (x_log_35, .inr (4, [.ref x_lo_metres_36, .ref x_lo_groups_37])), (x_lo_metres_36, .inl (cI, 8020, .inl (fun _ => 0))), (x_lo_groups_37, .inl (cI, 401, .inl (fun _ => 0))), (x_trial_38, .inr (3, [.int 0, .int 0, .int 0, .long 0, .int 0, .ref x_tr_rides_39, .ref x_tr_metres_40, .ref x_tr_store_41, .ref x_tr_seconds_42, .ref x_tr_timesHeld_43, .ref x_tr_work_44, .ref x_tr_heldFor_45, .ref x_tr_primeSeconds_46, .ref x_tr_orderRows_47, .ref x_tr_bunches_48, .ref x_tr_values_52])), (x_tr_rides_39, .inl (cZ, 20, .inl (fun _ => 0))), (x_tr_metres_40, .inl (cI, 20, .inl (fun _ => 0))), (x_tr_store_41, .inl (cI, 20, .inl (fun _ => 0))), (x_tr_seconds_42, .inl (cI, 20, .inl (fun _ => 0))), (x_tr_timesHeld_43, .inl (cI, 20, .inl (fun _ => 0))), (x_tr_work_44, .inl (cI, 20, .inl (fun _ => 0))), (x_tr_heldFor_45, .inl (cI, 20, .inl (fun _ => 0))), (x_tr_primeSeconds_46, .inl (cI, 100, .inl (fun _ => 0))), (x_tr_orderRows_47, .inl (cI, 5, .inl (fun _ => 0))), (x_tr_bunches_48, .inr (0, [.int 0, .int 0, .ref x_tr_bu_order_49, .ref x_tr_bu_places_50, .ref x_tr_bu_sizes_51])), (x_tr_bu_order_49, .inl (cI, 20, .inl (fun _ => 0))), (x_tr_bu_places_50, .inl (cI, 20, .inl (fun _ => 0))), (x_tr_bu_sizes_51, .inl (cI, 20, .inl (fun _ => 0))), (x_tr_values_52, .inl (cI, 5, .inl (fun _ => 0))), (x_stages_53, .inr (7, [.int 0, .int 20, .ref x_sg_totals_54, .ref x_sg_points_55, .ref x_sg_out_56])), (x_sg_totals_54, .inl (cI, 20, .inl (fun _ => 0))), (x_sg_points_55, .inl (cI, 20, .inl (fun _ => 0))), (x_sg_out_56, .inl (cZ, 20, .inl (fun _ => 0)))]) hP hD [0] [] rfl rfl (by decide) (by decide) hk1 hFc hP1 hD1
  generalize H1 = H at hP hS ⊢
  have hP : va_P (dC, dI) vwCl [(q_1, .inr (9, [.ref x_riders_2, .ref x_road_7, .ref x_tape_11, .ref x_book_13, .ref x_reader_19, .ref x_latest_20, .ref x_log_35, .ref x_trial_38, .ref x_stages_53, .int 0, .int 0, .int 0])), (x_riders_2, .inr (5, [.int 0, .ref x_ri_teams_3, .ref x_ri_steady_4, .ref x_ri_full_5, .ref x_ri_climb_6])), (x_ri_teams_3, .inl (cI, 20, .inl (fun _ => 0))), (x_ri_steady_4, .inl (cI, 20, .inl (fun _ => 0))), (x_ri_full_5, .inl (cI, 20, .inl (fun _ => 0))), (x_ri_climb_6, .inl (cI, 20, .inl (fun _ => 0))), (x_road_7, .inr (6, [.int 1, .ref x_ro_rises_8, .ref x_ro_winds_9, .int 0, .ref x_ro_primeMetres_10, .int 0, .int 0])), (x_ro_rises_8, .inl (cI, 30, .inl (fun _ => 0))), (x_ro_winds_9, .inl (cI, 30, .inl (fun _ => 0))), (x_ro_primeMetres_10, .inl (cI, 5, .inl (fun _ => 0))), (x_tape_11, .inr (8, [.int 0, .ref x_ta_bytes_12])), (x_ta_bytes_12, .inl (cI, 100, .inl (fun _ => 0))), (x_book_13, .inr (1, [.ref x_bo_clauses_14, .ref x_bo_asked_15, .ref x_bo_signs_16, .ref x_bo_numbers_17, .ref x_bo_paces_18])), (x_bo_clauses_14, .inl (cI, 10, .inl (fun _ => 0))), (x_bo_asked_15, .inl (cI, 160, .inl (fun _ => 0))), (x_bo_signs_16, .inl (cI, 160, .inl (fun _ => 0))), (x_bo_numbers_17, .inl (cI, 160, .inl (fun _ => 0))), (x_bo_paces_18, .inl (cI, 160, .inl (fun _ => 0))), (x_reader_19, .inr (2, [.int 0, .int 0, .int 0, .int 0, .int 0])), (x_latest_20, .inr (3, [.int 0, .int 0, .int 0, .long 0, .int 0, .ref x_la_rides_21, .ref x_la_metres_22, .ref x_la_store_23, .ref x_la_seconds_24, .ref x_la_timesHeld_25, .ref x_la_work_26, .ref x_la_heldFor_27, .ref x_la_primeSeconds_28, .ref x_la_orderRows_29, .ref x_la_bunches_30, .ref x_la_values_34])), (x_la_rides_21, .inl (cZ, 20, .inl (fun _ => 0))), (x_la_metres_22, .inl (cI, 20, .inl (fun _ => 0))), (x_la_store_23, .inl (cI, 20, .inl (fun _ => 0))), (x_la_seconds_24, .inl (cI, 20, .inl (fun _ => 0))), (x_la_timesHeld_25, .inl (cI, 20, .inl (fun _ => 0))), (x_la_work_26, .inl (cI, 20, .inl (fun _ => 0))), (x_la_heldFor_27, .inl (cI, 20, .inl (fun _ => 0))), (x_la_primeSeconds_28, .inl (cI, 100, .inl (fun _ => 0))), (x_la_orderRows_29, .inl (cI, 5, .inl (fun _ => 0))), (x_la_bunches_30, .inr (0, [.int 0, .int 0, .ref x_la_bu_order_31, .ref x_la_bu_places_32, .ref x_la_bu_sizes_33])), (x_la_bu_order_31, .inl (cI, 20, .inl (fun _ => 0))), (x_la_bu_places_32, .inl (cI, 20, .inl (fun _ => 0))), (x_la_bu_sizes_33, .inl (cI, 20, .inl (fun _ => 0))), (x_la_values_34, .inl (cI, 5, .inl (fun _ => 0))), (x_log_35, .inr (4, [.ref x_lo_metres_36, .ref x_lo_groups_37])), (x_lo_metres_36, .inl (cI, 8020, .inl (fun _ => 0))), (x_lo_groups_37, .inl (cI, 401, .inl (fun _ => 0))), (x_trial_38, .inr (3, [.int 0, .int 0, .int 0, .long 0, .int 0, .ref x_tr_rides_39, .ref x_tr_metres_40, .ref x_tr_store_41, .ref x_tr_seconds_42, .ref x_tr_timesHeld_43, .ref x_tr_work_44, .ref x_tr_heldFor_45, .ref x_tr_primeSeconds_46, .ref x_tr_orderRows_47, .ref x_tr_bunches_48, .ref x_tr_values_52])), (x_tr_rides_39, .inl (cZ, 20, .inl (fun _ => 0))), (x_tr_metres_40, .inl (cI, 20, .inl (fun _ => 0))), (x_tr_store_41, .inl (cI, 20, .inl (fun _ => 0))), (x_tr_seconds_42, .inl (cI, 20, .inl (fun _ => 0))), (x_tr_timesHeld_43, .inl (cI, 20, .inl (fun _ => 0))), (x_tr_work_44, .inl (cI, 20, .inl (fun _ => 0))), (x_tr_heldFor_45, .inl (cI, 20, .inl (fun _ => 0))), (x_tr_primeSeconds_46, .inl (cI, 100, .inl (fun _ => 0))), (x_tr_orderRows_47, .inl (cI, 5, .inl (fun _ => 0))), (x_tr_bunches_48, .inr (0, [.int 0, .int 0, .ref x_tr_bu_order_49, .ref x_tr_bu_places_50, .ref x_tr_bu_sizes_51])), (x_tr_bu_order_49, .inl (cI, 20, .inl (fun _ => 0))), (x_tr_bu_places_50, .inl (cI, 20, .inl (fun _ => 0))), (x_tr_bu_sizes_51, .inl (cI, 20, .inl (fun _ => 0))), (x_tr_values_52, .inl (cI, 5, .inl (fun _ => 0))), (x_stages_53, .inr (7, [.int 0, .int 20, .ref x_sg_totals_54, .ref x_sg_points_55, .ref x_sg_out_56])), (x_sg_totals_54, .inl (cI, 20, .inl (fun _ => 0))), (x_sg_points_55, .inl (cI, 20, .inl (fun _ => 0))), (x_sg_out_56, .inl (cZ, 20, .inl (fun _ => 0)))] H := hP
  have hD : va_D (fun q : Nat => s.heap.size ≤ q) [(q_1, .inr (9, [.ref x_riders_2, .ref x_road_7, .ref x_tape_11, .ref x_book_13, .ref x_reader_19, .ref x_latest_20, .ref x_log_35, .ref x_trial_38, .ref x_stages_53, .int 0, .int 0, .int 0])), (x_riders_2, .inr (5, [.int 0, .ref x_ri_teams_3, .ref x_ri_steady_4, .ref x_ri_full_5, .ref x_ri_climb_6])), (x_ri_teams_3, .inl (cI, 20, .inl (fun _ => 0))), (x_ri_steady_4, .inl (cI, 20, .inl (fun _ => 0))), (x_ri_full_5, .inl (cI, 20, .inl (fun _ => 0))), (x_ri_climb_6, .inl (cI, 20, .inl (fun _ => 0))), (x_road_7, .inr (6, [.int 1, .ref x_ro_rises_8, .ref x_ro_winds_9, .int 0, .ref x_ro_primeMetres_10, .int 0, .int 0])), (x_ro_rises_8, .inl (cI, 30, .inl (fun _ => 0))), (x_ro_winds_9, .inl (cI, 30, .inl (fun _ => 0))), (x_ro_primeMetres_10, .inl (cI, 5, .inl (fun _ => 0))), (x_tape_11, .inr (8, [.int 0, .ref x_ta_bytes_12])), (x_ta_bytes_12, .inl (cI, 100, .inl (fun _ => 0))), (x_book_13, .inr (1, [.ref x_bo_clauses_14, .ref x_bo_asked_15, .ref x_bo_signs_16, .ref x_bo_numbers_17, .ref x_bo_paces_18])), (x_bo_clauses_14, .inl (cI, 10, .inl (fun _ => 0))), (x_bo_asked_15, .inl (cI, 160, .inl (fun _ => 0))), (x_bo_signs_16, .inl (cI, 160, .inl (fun _ => 0))), (x_bo_numbers_17, .inl (cI, 160, .inl (fun _ => 0))), (x_bo_paces_18, .inl (cI, 160, .inl (fun _ => 0))), (x_reader_19, .inr (2, [.int 0, .int 0, .int 0, .int 0, .int 0])), (x_latest_20, .inr (3, [.int 0, .int 0, .int 0, .long 0, .int 0, .ref x_la_rides_21, .ref x_la_metres_22, .ref x_la_store_23, .ref x_la_seconds_24, .ref x_la_timesHeld_25, .ref x_la_work_26, .ref x_la_heldFor_27, .ref x_la_primeSeconds_28, .ref x_la_orderRows_29, .ref x_la_bunches_30, .ref x_la_values_34])), (x_la_rides_21, .inl (cZ, 20, .inl (fun _ => 0))), (x_la_metres_22, .inl (cI, 20, .inl (fun _ => 0))), (x_la_store_23, .inl (cI, 20, .inl (fun _ => 0))), (x_la_seconds_24, .inl (cI, 20, .inl (fun _ => 0))), (x_la_timesHeld_25, .inl (cI, 20, .inl (fun _ => 0))), (x_la_work_26, .inl (cI, 20, .inl (fun _ => 0))), (x_la_heldFor_27, .inl (cI, 20, .inl (fun _ => 0))), (x_la_primeSeconds_28, .inl (cI, 100, .inl (fun _ => 0))), (x_la_orderRows_29, .inl (cI, 5, .inl (fun _ => 0))), (x_la_bunches_30, .inr (0, [.int 0, .int 0, .ref x_la_bu_order_31, .ref x_la_bu_places_32, .ref x_la_bu_sizes_33])), (x_la_bu_order_31, .inl (cI, 20, .inl (fun _ => 0))), (x_la_bu_places_32, .inl (cI, 20, .inl (fun _ => 0))), (x_la_bu_sizes_33, .inl (cI, 20, .inl (fun _ => 0))), (x_la_values_34, .inl (cI, 5, .inl (fun _ => 0))), (x_log_35, .inr (4, [.ref x_lo_metres_36, .ref x_lo_groups_37])), (x_lo_metres_36, .inl (cI, 8020, .inl (fun _ => 0))), (x_lo_groups_37, .inl (cI, 401, .inl (fun _ => 0))), (x_trial_38, .inr (3, [.int 0, .int 0, .int 0, .long 0, .int 0, .ref x_tr_rides_39, .ref x_tr_metres_40, .ref x_tr_store_41, .ref x_tr_seconds_42, .ref x_tr_timesHeld_43, .ref x_tr_work_44, .ref x_tr_heldFor_45, .ref x_tr_primeSeconds_46, .ref x_tr_orderRows_47, .ref x_tr_bunches_48, .ref x_tr_values_52])), (x_tr_rides_39, .inl (cZ, 20, .inl (fun _ => 0))), (x_tr_metres_40, .inl (cI, 20, .inl (fun _ => 0))), (x_tr_store_41, .inl (cI, 20, .inl (fun _ => 0))), (x_tr_seconds_42, .inl (cI, 20, .inl (fun _ => 0))), (x_tr_timesHeld_43, .inl (cI, 20, .inl (fun _ => 0))), (x_tr_work_44, .inl (cI, 20, .inl (fun _ => 0))), (x_tr_heldFor_45, .inl (cI, 20, .inl (fun _ => 0))), (x_tr_primeSeconds_46, .inl (cI, 100, .inl (fun _ => 0))), (x_tr_orderRows_47, .inl (cI, 5, .inl (fun _ => 0))), (x_tr_bunches_48, .inr (0, [.int 0, .int 0, .ref x_tr_bu_order_49, .ref x_tr_bu_places_50, .ref x_tr_bu_sizes_51])), (x_tr_bu_order_49, .inl (cI, 20, .inl (fun _ => 0))), (x_tr_bu_places_50, .inl (cI, 20, .inl (fun _ => 0))), (x_tr_bu_sizes_51, .inl (cI, 20, .inl (fun _ => 0))), (x_tr_values_52, .inl (cI, 5, .inl (fun _ => 0))), (x_stages_53, .inr (7, [.int 0, .int 20, .ref x_sg_totals_54, .ref x_sg_points_55, .ref x_sg_out_56])), (x_sg_totals_54, .inl (cI, 20, .inl (fun _ => 0))), (x_sg_points_55, .inl (cI, 20, .inl (fun _ => 0))), (x_sg_out_56, .inl (cZ, 20, .inl (fun _ => 0)))] := hD
  refine lv_astore_n (lv' := [(1, .ref q_1), (0, .ref b)]) hx hb dL_law_7 rfl hl (by decide) rfl (fun ls hl => ?_)
  refine va_new (ci := 10) (fs := [.int 0, .int 0, .int 0, .int 0, .int 0, .int 0, .int 0, .int 0, .null, .null, .null, .null, .null, .null, .null, .null, .int 0, .int 0, .int 0, .null, .null, .null, .null, .null, .null, .null, .null, .null, .null, .null, .null, .null, .null, .int 0, .long 0, .null, .int 0, .null, .null, .null, .null, .null, .int 0, .int 0, .int 0, .int 0, .null, .null, .null, .null, .null, .null]) (C := RX10) (T := TX10) (N := 52) hx hb hts hiX10 tyX10 tyX10_ok hown hw5 hw6 hw7 hK hP hD hS hA rfl zz_dfX10 (Nat.le_of_ble_eq_true rfl) (Nat.le_of_ble_eq_true rfl) dL_law_8 (fun q_57 H hP hD hS => ?_)
  have hP : va_P (dC, dI) vwCl [(q_1, .inr (9, [.ref x_riders_2, .ref x_road_7, .ref x_tape_11, .ref x_book_13, .ref x_reader_19, .ref x_latest_20, .ref x_log_35, .ref x_trial_38, .ref x_stages_53, .int 0, .int 0, .int 0])), (x_riders_2, .inr (5, [.int 0, .ref x_ri_teams_3, .ref x_ri_steady_4, .ref x_ri_full_5, .ref x_ri_climb_6])), (x_ri_teams_3, .inl (cI, 20, .inl (fun _ => 0))), (x_ri_steady_4, .inl (cI, 20, .inl (fun _ => 0))), (x_ri_full_5, .inl (cI, 20, .inl (fun _ => 0))), (x_ri_climb_6, .inl (cI, 20, .inl (fun _ => 0))), (x_road_7, .inr (6, [.int 1, .ref x_ro_rises_8, .ref x_ro_winds_9, .int 0, .ref x_ro_primeMetres_10, .int 0, .int 0])), (x_ro_rises_8, .inl (cI, 30, .inl (fun _ => 0))), (x_ro_winds_9, .inl (cI, 30, .inl (fun _ => 0))), (x_ro_primeMetres_10, .inl (cI, 5, .inl (fun _ => 0))), (x_tape_11, .inr (8, [.int 0, .ref x_ta_bytes_12])), (x_ta_bytes_12, .inl (cI, 100, .inl (fun _ => 0))), (x_book_13, .inr (1, [.ref x_bo_clauses_14, .ref x_bo_asked_15, .ref x_bo_signs_16, .ref x_bo_numbers_17, .ref x_bo_paces_18])), (x_bo_clauses_14, .inl (cI, 10, .inl (fun _ => 0))), (x_bo_asked_15, .inl (cI, 160, .inl (fun _ => 0))), (x_bo_signs_16, .inl (cI, 160, .inl (fun _ => 0))), (x_bo_numbers_17, .inl (cI, 160, .inl (fun _ => 0))), (x_bo_paces_18, .inl (cI, 160, .inl (fun _ => 0))), (x_reader_19, .inr (2, [.int 0, .int 0, .int 0, .int 0, .int 0])), (x_latest_20, .inr (3, [.int 0, .int 0, .int 0, .long 0, .int 0, .ref x_la_rides_21, .ref x_la_metres_22, .ref x_la_store_23, .ref x_la_seconds_24, .ref x_la_timesHeld_25, .ref x_la_work_26, .ref x_la_heldFor_27, .ref x_la_primeSeconds_28, .ref x_la_orderRows_29, .ref x_la_bunches_30, .ref x_la_values_34])), (x_la_rides_21, .inl (cZ, 20, .inl (fun _ => 0))), (x_la_metres_22, .inl (cI, 20, .inl (fun _ => 0))), (x_la_store_23, .inl (cI, 20, .inl (fun _ => 0))), (x_la_seconds_24, .inl (cI, 20, .inl (fun _ => 0))), (x_la_timesHeld_25, .inl (cI, 20, .inl (fun _ => 0))), (x_la_work_26, .inl (cI, 20, .inl (fun _ => 0))), (x_la_heldFor_27, .inl (cI, 20, .inl (fun _ => 0))), (x_la_primeSeconds_28, .inl (cI, 100, .inl (fun _ => 0))), (x_la_orderRows_29, .inl (cI, 5, .inl (fun _ => 0))), (x_la_bunches_30, .inr (0, [.int 0, .int 0, .ref x_la_bu_order_31, .ref x_la_bu_places_32, .ref x_la_bu_sizes_33])), (x_la_bu_order_31, .inl (cI, 20, .inl (fun _ => 0))), (x_la_bu_places_32, .inl (cI, 20, .inl (fun _ => 0))), (x_la_bu_sizes_33, .inl (cI, 20, .inl (fun _ => 0))), (x_la_values_34, .inl (cI, 5, .inl (fun _ => 0))), (x_log_35, .inr (4, [.ref x_lo_metres_36, .ref x_lo_groups_37])), (x_lo_metres_36, .inl (cI, 8020, .inl (fun _ => 0))), (x_lo_groups_37, .inl (cI, 401, .inl (fun _ => 0))), (x_trial_38, .inr (3, [.int 0, .int 0, .int 0, .long 0, .int 0, .ref x_tr_rides_39, .ref x_tr_metres_40, .ref x_tr_store_41, .ref x_tr_seconds_42, .ref x_tr_timesHeld_43, .ref x_tr_work_44, .ref x_tr_heldFor_45, .ref x_tr_primeSeconds_46, .ref x_tr_orderRows_47, .ref x_tr_bunches_48, .ref x_tr_values_52])), (x_tr_rides_39, .inl (cZ, 20, .inl (fun _ => 0))), (x_tr_metres_40, .inl (cI, 20, .inl (fun _ => 0))), (x_tr_store_41, .inl (cI, 20, .inl (fun _ => 0))), (x_tr_seconds_42, .inl (cI, 20, .inl (fun _ => 0))), (x_tr_timesHeld_43, .inl (cI, 20, .inl (fun _ => 0))), (x_tr_work_44, .inl (cI, 20, .inl (fun _ => 0))), (x_tr_heldFor_45, .inl (cI, 20, .inl (fun _ => 0))), (x_tr_primeSeconds_46, .inl (cI, 100, .inl (fun _ => 0))), (x_tr_orderRows_47, .inl (cI, 5, .inl (fun _ => 0))), (x_tr_bunches_48, .inr (0, [.int 0, .int 0, .ref x_tr_bu_order_49, .ref x_tr_bu_places_50, .ref x_tr_bu_sizes_51])), (x_tr_bu_order_49, .inl (cI, 20, .inl (fun _ => 0))), (x_tr_bu_places_50, .inl (cI, 20, .inl (fun _ => 0))), (x_tr_bu_sizes_51, .inl (cI, 20, .inl (fun _ => 0))), (x_tr_values_52, .inl (cI, 5, .inl (fun _ => 0))), (x_stages_53, .inr (7, [.int 0, .int 20, .ref x_sg_totals_54, .ref x_sg_points_55, .ref x_sg_out_56])), (x_sg_totals_54, .inl (cI, 20, .inl (fun _ => 0))), (x_sg_points_55, .inl (cI, 20, .inl (fun _ => 0))), (x_sg_out_56, .inl (cZ, 20, .inl (fun _ => 0))), (q_57, .inr (10, [.int 0, .int 0, .int 0, .int 0, .int 0, .int 0, .int 0, .int 0, .null, .null, .null, .null, .null, .null, .null, .null, .int 0, .int 0, .int 0, .null, .null, .null, .null, .null, .null, .null, .null, .null, .null, .null, .null, .null, .null, .int 0, .long 0, .null, .int 0, .null, .null, .null, .null, .null, .int 0, .int 0, .int 0, .int 0, .null, .null, .null, .null, .null, .null]))] H := hP
  have hD : va_D (fun q : Nat => s.heap.size ≤ q) [(q_1, .inr (9, [.ref x_riders_2, .ref x_road_7, .ref x_tape_11, .ref x_book_13, .ref x_reader_19, .ref x_latest_20, .ref x_log_35, .ref x_trial_38, .ref x_stages_53, .int 0, .int 0, .int 0])), (x_riders_2, .inr (5, [.int 0, .ref x_ri_teams_3, .ref x_ri_steady_4, .ref x_ri_full_5, .ref x_ri_climb_6])), (x_ri_teams_3, .inl (cI, 20, .inl (fun _ => 0))), (x_ri_steady_4, .inl (cI, 20, .inl (fun _ => 0))), (x_ri_full_5, .inl (cI, 20, .inl (fun _ => 0))), (x_ri_climb_6, .inl (cI, 20, .inl (fun _ => 0))), (x_road_7, .inr (6, [.int 1, .ref x_ro_rises_8, .ref x_ro_winds_9, .int 0, .ref x_ro_primeMetres_10, .int 0, .int 0])), (x_ro_rises_8, .inl (cI, 30, .inl (fun _ => 0))), (x_ro_winds_9, .inl (cI, 30, .inl (fun _ => 0))), (x_ro_primeMetres_10, .inl (cI, 5, .inl (fun _ => 0))), (x_tape_11, .inr (8, [.int 0, .ref x_ta_bytes_12])), (x_ta_bytes_12, .inl (cI, 100, .inl (fun _ => 0))), (x_book_13, .inr (1, [.ref x_bo_clauses_14, .ref x_bo_asked_15, .ref x_bo_signs_16, .ref x_bo_numbers_17, .ref x_bo_paces_18])), (x_bo_clauses_14, .inl (cI, 10, .inl (fun _ => 0))), (x_bo_asked_15, .inl (cI, 160, .inl (fun _ => 0))), (x_bo_signs_16, .inl (cI, 160, .inl (fun _ => 0))), (x_bo_numbers_17, .inl (cI, 160, .inl (fun _ => 0))), (x_bo_paces_18, .inl (cI, 160, .inl (fun _ => 0))), (x_reader_19, .inr (2, [.int 0, .int 0, .int 0, .int 0, .int 0])), (x_latest_20, .inr (3, [.int 0, .int 0, .int 0, .long 0, .int 0, .ref x_la_rides_21, .ref x_la_metres_22, .ref x_la_store_23, .ref x_la_seconds_24, .ref x_la_timesHeld_25, .ref x_la_work_26, .ref x_la_heldFor_27, .ref x_la_primeSeconds_28, .ref x_la_orderRows_29, .ref x_la_bunches_30, .ref x_la_values_34])), (x_la_rides_21, .inl (cZ, 20, .inl (fun _ => 0))), (x_la_metres_22, .inl (cI, 20, .inl (fun _ => 0))), (x_la_store_23, .inl (cI, 20, .inl (fun _ => 0))), (x_la_seconds_24, .inl (cI, 20, .inl (fun _ => 0))), (x_la_timesHeld_25, .inl (cI, 20, .inl (fun _ => 0))), (x_la_work_26, .inl (cI, 20, .inl (fun _ => 0))), (x_la_heldFor_27, .inl (cI, 20, .inl (fun _ => 0))), (x_la_primeSeconds_28, .inl (cI, 100, .inl (fun _ => 0))), (x_la_orderRows_29, .inl (cI, 5, .inl (fun _ => 0))), (x_la_bunches_30, .inr (0, [.int 0, .int 0, .ref x_la_bu_order_31, .ref x_la_bu_places_32, .ref x_la_bu_sizes_33])), (x_la_bu_order_31, .inl (cI, 20, .inl (fun _ => 0))), (x_la_bu_places_32, .inl (cI, 20, .inl (fun _ => 0))), (x_la_bu_sizes_33, .inl (cI, 20, .inl (fun _ => 0))), (x_la_values_34, .inl (cI, 5, .inl (fun _ => 0))), (x_log_35, .inr (4, [.ref x_lo_metres_36, .ref x_lo_groups_37])), (x_lo_metres_36, .inl (cI, 8020, .inl (fun _ => 0))), (x_lo_groups_37, .inl (cI, 401, .inl (fun _ => 0))), (x_trial_38, .inr (3, [.int 0, .int 0, .int 0, .long 0, .int 0, .ref x_tr_rides_39, .ref x_tr_metres_40, .ref x_tr_store_41, .ref x_tr_seconds_42, .ref x_tr_timesHeld_43, .ref x_tr_work_44, .ref x_tr_heldFor_45, .ref x_tr_primeSeconds_46, .ref x_tr_orderRows_47, .ref x_tr_bunches_48, .ref x_tr_values_52])), (x_tr_rides_39, .inl (cZ, 20, .inl (fun _ => 0))), (x_tr_metres_40, .inl (cI, 20, .inl (fun _ => 0))), (x_tr_store_41, .inl (cI, 20, .inl (fun _ => 0))), (x_tr_seconds_42, .inl (cI, 20, .inl (fun _ => 0))), (x_tr_timesHeld_43, .inl (cI, 20, .inl (fun _ => 0))), (x_tr_work_44, .inl (cI, 20, .inl (fun _ => 0))), (x_tr_heldFor_45, .inl (cI, 20, .inl (fun _ => 0))), (x_tr_primeSeconds_46, .inl (cI, 100, .inl (fun _ => 0))), (x_tr_orderRows_47, .inl (cI, 5, .inl (fun _ => 0))), (x_tr_bunches_48, .inr (0, [.int 0, .int 0, .ref x_tr_bu_order_49, .ref x_tr_bu_places_50, .ref x_tr_bu_sizes_51])), (x_tr_bu_order_49, .inl (cI, 20, .inl (fun _ => 0))), (x_tr_bu_places_50, .inl (cI, 20, .inl (fun _ => 0))), (x_tr_bu_sizes_51, .inl (cI, 20, .inl (fun _ => 0))), (x_tr_values_52, .inl (cI, 5, .inl (fun _ => 0))), (x_stages_53, .inr (7, [.int 0, .int 20, .ref x_sg_totals_54, .ref x_sg_points_55, .ref x_sg_out_56])), (x_sg_totals_54, .inl (cI, 20, .inl (fun _ => 0))), (x_sg_points_55, .inl (cI, 20, .inl (fun _ => 0))), (x_sg_out_56, .inl (cZ, 20, .inl (fun _ => 0))), (q_57, .inr (10, [.int 0, .int 0, .int 0, .int 0, .int 0, .int 0, .int 0, .int 0, .null, .null, .null, .null, .null, .null, .null, .null, .int 0, .int 0, .int 0, .null, .null, .null, .null, .null, .null, .null, .null, .null, .null, .null, .null, .null, .null, .int 0, .long 0, .null, .int 0, .null, .null, .null, .null, .null, .int 0, .int 0, .int 0, .int 0, .null, .null, .null, .null, .null, .null]))] := hD
  refine lv_dup hx hb dL_law_11 rfl ?_
  have hPc := hP.sub (ws' := [(q_57, .inr (10, [.int 0, .int 0, .int 0, .int 0, .int 0, .int 0, .int 0, .int 0, .null, .null, .null, .null, .null, .null, .null, .null, .int 0, .int 0, .int 0, .null, .null, .null, .null, .null, .null, .null, .null, .null, .null, .null, .null, .null, .null, .int 0, .long 0, .null, .int 0, .null, .null, .null, .null, .null, .int 0, .int 0, .int 0, .int 0, .null, .null, .null, .null, .null, .null]))]) [56] rfl
  have hDc := hD.sub (ws' := [(q_57, .inr (10, [.int 0, .int 0, .int 0, .int 0, .int 0, .int 0, .int 0, .int 0, .null, .null, .null, .null, .null, .null, .null, .null, .int 0, .int 0, .int 0, .null, .null, .null, .null, .null, .null, .null, .null, .null, .null, .null, .null, .null, .null, .int 0, .long 0, .null, .int 0, .null, .null, .null, .null, .null, .int 0, .int 0, .int 0, .int 0, .null, .null, .null, .null, .null, .null]))]) [56] (by decide) rfl
  have hFc := va_free (wc := [(q_57, .inr (10, [.int 0, .int 0, .int 0, .int 0, .int 0, .int 0, .int 0, .int 0, .null, .null, .null, .null, .null, .null, .null, .null, .int 0, .int 0, .int 0, .null, .null, .null, .null, .null, .null, .null, .null, .null, .null, .null, .null, .null, .null, .int 0, .long 0, .null, .int 0, .null, .null, .null, .null, .null, .int 0, .int 0, .int 0, .int 0, .null, .null, .null, .null, .null, .null]))]) hD hS hA [56] rfl
  refine va_callv (va_runI (As := []) (rest := [.ref q_57]) ⟨hx, hb, hml, hown, hts⟩ (c_X10_init l dC dI cI cZ (H).size q_57) ⟨callB_of 0 hts (zz_goodL zw_735) rfl rfl rfl hw7 hw8 (by decide +kernel) ⟨Nat.le_of_ble_eq_true rfl, Nat.le_of_ble_eq_true rfl⟩, rfl, hw9⟩ ⟨fun a U g mk q => by obtain ⟨q0, q1, qP, qK, qD⟩ := q; exact ⟨q0, q1, qP, va_K.moved (u := U) (U := U.calling g mk a) (Vm.Alike.refl U.vm) qK, qD⟩, fun U hU hW => ⟨rfl, by rw [hU], by rw [hU]; exact hPc, va_K.moved hW.alike hK, hDc.weaken (fun _ _ _ _ => trivial)⟩⟩ rfl rfl hl.1 rfl (lv_room (Nat.le_of_ble_eq_true rfl)) dL_law_12 ⟨Nat.le_of_ble_eq_true rfl, Nat.le_of_ble_eq_true rfl⟩) hS (fun q _ h => hFc q h) hFc (fun u t H1 locs ht hvm hpost hB hz1 hk1 hS => ?_)
  obtain ⟨m_teamOf_58, m_steady_59, m_full_60, m_climb_61, m_rises_62, m_winds_63, m_primeAt_64, m_tape_65, m_clauses_66, m_letter_67, m_sign_68, m_bar_69, m_pace_70, m_rides_71, m_isOut_72, m_metre_73, m_charge_74, m_held_75, m_seconds_76, m_heldOften_77, m_work_78, m_primeSeconds_79, m_row_80, m_groupSize_81, m_place_82, m_stood_83, m_history_84, m_groupHistory_85, m_didRide_86, m_toldRow_87, m_passedBy_88, m_total_89, m_points_90, m_used_91, hP1, hK1, hD1⟩ := hB
  rw [ht] at hP1
  obtain ⟨hP, hD⟩ := va_join (wr := [(q_1, .inr (9, [.ref x_riders_2, .ref x_road_7, .ref x_tape_11, .ref x_book_13, .ref x_reader_19, .ref x_latest_20, .ref x_log_35, .ref x_trial_38, .ref x_stages_53, .int 0, .int 0, .int 0])), (x_riders_2, .inr (5, [.int 0, .ref x_ri_teams_3, .ref x_ri_steady_4, .ref x_ri_full_5, .ref x_ri_climb_6])), (x_ri_teams_3, .inl (cI, 20, .inl (fun _ => 0))), (x_ri_steady_4, .inl (cI, 20, .inl (fun _ => 0))), (x_ri_full_5, .inl (cI, 20, .inl (fun _ => 0))), (x_ri_climb_6, .inl (cI, 20, .inl (fun _ => 0))), (x_road_7, .inr (6, [.int 1, .ref x_ro_rises_8, .ref x_ro_winds_9, .int 0, .ref x_ro_primeMetres_10, .int 0, .int 0])), (x_ro_rises_8, .inl (cI, 30, .inl (fun _ => 0))), (x_ro_winds_9, .inl (cI, 30, .inl (fun _ => 0))), (x_ro_primeMetres_10, .inl (cI, 5, .inl (fun _ => 0))), (x_tape_11, .inr (8, [.int 0, .ref x_ta_bytes_12])), (x_ta_bytes_12, .inl (cI, 100, .inl (fun _ => 0))), (x_book_13, .inr (1, [.ref x_bo_clauses_14, .ref x_bo_asked_15, .ref x_bo_signs_16, .ref x_bo_numbers_17, .ref x_bo_paces_18])), (x_bo_clauses_14, .inl (cI, 10, .inl (fun _ => 0))), (x_bo_asked_15, .inl (cI, 160, .inl (fun _ => 0))), (x_bo_signs_16, .inl (cI, 160, .inl (fun _ => 0))), (x_bo_numbers_17, .inl (cI, 160, .inl (fun _ => 0))), (x_bo_paces_18, .inl (cI, 160, .inl (fun _ => 0))), (x_reader_19, .inr (2, [.int 0, .int 0, .int 0, .int 0, .int 0])), (x_latest_20, .inr (3, [.int 0, .int 0, .int 0, .long 0, .int 0, .ref x_la_rides_21, .ref x_la_metres_22, .ref x_la_store_23, .ref x_la_seconds_24, .ref x_la_timesHeld_25, .ref x_la_work_26, .ref x_la_heldFor_27, .ref x_la_primeSeconds_28, .ref x_la_orderRows_29, .ref x_la_bunches_30, .ref x_la_values_34])), (x_la_rides_21, .inl (cZ, 20, .inl (fun _ => 0))), (x_la_metres_22, .inl (cI, 20, .inl (fun _ => 0))), (x_la_store_23, .inl (cI, 20, .inl (fun _ => 0))), (x_la_seconds_24, .inl (cI, 20, .inl (fun _ => 0))), (x_la_timesHeld_25, .inl (cI, 20, .inl (fun _ => 0))), (x_la_work_26, .inl (cI, 20, .inl (fun _ => 0))), (x_la_heldFor_27, .inl (cI, 20, .inl (fun _ => 0))), (x_la_primeSeconds_28, .inl (cI, 100, .inl (fun _ => 0))), (x_la_orderRows_29, .inl (cI, 5, .inl (fun _ => 0))), (x_la_bunches_30, .inr (0, [.int 0, .int 0, .ref x_la_bu_order_31, .ref x_la_bu_places_32, .ref x_la_bu_sizes_33])), (x_la_bu_order_31, .inl (cI, 20, .inl (fun _ => 0))), (x_la_bu_places_32, .inl (cI, 20, .inl (fun _ => 0))), (x_la_bu_sizes_33, .inl (cI, 20, .inl (fun _ => 0))), (x_la_values_34, .inl (cI, 5, .inl (fun _ => 0))), (x_log_35, .inr (4, [.ref x_lo_metres_36, .ref x_lo_groups_37])), (x_lo_metres_36, .inl (cI, 8020, .inl (fun _ => 0))), (x_lo_groups_37, .inl (cI, 401, .inl (fun _ => 0))), (x_trial_38, .inr (3, [.int 0, .int 0, .int 0, .long 0, .int 0, .ref x_tr_rides_39, .ref x_tr_metres_40, .ref x_tr_store_41, .ref x_tr_seconds_42, .ref x_tr_timesHeld_43, .ref x_tr_work_44, .ref x_tr_heldFor_45, .ref x_tr_primeSeconds_46, .ref x_tr_orderRows_47, .ref x_tr_bunches_48, .ref x_tr_values_52])), (x_tr_rides_39, .inl (cZ, 20, .inl (fun _ => 0))), (x_tr_metres_40, .inl (cI, 20, .inl (fun _ => 0))), (x_tr_store_41, .inl (cI, 20, .inl (fun _ => 0))), (x_tr_seconds_42, .inl (cI, 20, .inl (fun _ => 0))), (x_tr_timesHeld_43, .inl (cI, 20, .inl (fun _ => 0))), (x_tr_work_44, .inl (cI, 20, .inl (fun _ => 0))), (x_tr_heldFor_45, .inl (cI, 20, .inl (fun _ => 0))), (x_tr_primeSeconds_46, .inl (cI, 100, .inl (fun _ => 0))), (x_tr_orderRows_47, .inl (cI, 5, .inl (fun _ => 0))), (x_tr_bunches_48, .inr (0, [.int 0, .int 0, .ref x_tr_bu_order_49, .ref x_tr_bu_places_50, .ref x_tr_bu_sizes_51])), (x_tr_bu_order_49, .inl (cI, 20, .inl (fun _ => 0))), (x_tr_bu_places_50, .inl (cI, 20, .inl (fun _ => 0))), (x_tr_bu_sizes_51, .inl (cI, 20, .inl (fun _ => 0))), (x_tr_values_52, .inl (cI, 5, .inl (fun _ => 0))), (x_stages_53, .inr (7, [.int 0, .int 20, .ref x_sg_totals_54, .ref x_sg_points_55, .ref x_sg_out_56])), (x_sg_totals_54, .inl (cI, 20, .inl (fun _ => 0))), (x_sg_points_55, .inl (cI, 20, .inl (fun _ => 0))), (x_sg_out_56, .inl (cZ, 20, .inl (fun _ => 0)))]) (w1 := [(q_57, .inr (10, [.int 0, .int 1, .int 0, .int (-1), .int 0, .int 0, .int 0, .int 20, .ref m_teamOf_58, .ref m_steady_59, .ref m_full_60, .ref m_climb_61, .ref m_rises_62, .ref m_winds_63, .ref m_primeAt_64, .ref m_tape_65, .int 0, .int 0, .int 0, .ref m_clauses_66, .ref m_letter_67, .ref m_sign_68, .ref m_bar_69, .ref m_pace_70, .ref m_rides_71, .ref m_isOut_72, .ref m_metre_73, .ref m_charge_74, .ref m_held_75, .ref m_seconds_76, .ref m_heldOften_77, .ref m_work_78, .ref m_primeSeconds_79, .int 0, .long 0, .ref m_row_80, .int 0, .ref m_groupSize_81, .ref m_place_82, .ref m_stood_83, .ref m_history_84, .ref m_groupHistory_85, .int 0, .int 0, .int 0, .int 0, .ref m_didRide_86, .ref m_toldRow_87, .ref m_passedBy_88, .ref m_total_89, .ref m_points_90, .ref m_used_91])), (m_teamOf_58, .inl (cI, 20, .inl (fun _ => 0))), (m_steady_59, .inl (cI, 20, .inl (fun _ => 0))), (m_full_60, .inl (cI, 20, .inl (fun _ => 0))), (m_climb_61, .inl (cI, 20, .inl (fun _ => 0))), (m_rises_62, .inl (cI, 30, .inl (fun _ => 0))), (m_winds_63, .inl (cI, 30, .inl (fun _ => 0))), (m_primeAt_64, .inl (cI, 5, .inl (fun _ => 0))), (m_tape_65, .inl (cI, 100, .inl (fun _ => 0))), (m_clauses_66, .inl (cI, 10, .inl (fun _ => 0))), (m_letter_67, .inl (cI, 240, .inl (fun _ => 0))), (m_sign_68, .inl (cI, 240, .inl (fun _ => 0))), (m_bar_69, .inl (cI, 240, .inl (fun _ => 0))), (m_pace_70, .inl (cI, 240, .inl (fun _ => 0))), (m_rides_71, .inl (cZ, 20, .inl (fun _ => 0))), (m_isOut_72, .inl (cZ, 20, .inl (fun _ => 0))), (m_metre_73, .inl (cI, 20, .inl (fun _ => 0))), (m_charge_74, .inl (cI, 20, .inl (fun _ => 0))), (m_held_75, .inl (cI, 20, .inl (fun _ => 0))), (m_seconds_76, .inl (cI, 20, .inl (fun _ => 0))), (m_heldOften_77, .inl (cI, 20, .inl (fun _ => 0))), (m_work_78, .inl (cI, 20, .inl (fun _ => 0))), (m_primeSeconds_79, .inl (cI, 100, .inl (fun _ => 0))), (m_row_80, .inl (cI, 20, .inl (fun _ => 0))), (m_groupSize_81, .inl (cI, 20, .inl (fun _ => 0))), (m_place_82, .inl (cI, 20, .inl (fun _ => 0))), (m_stood_83, .inl (cI, 20, .inl (fun _ => 0))), (m_history_84, .inl (cI, 8020, .inl (fun _ => 0))), (m_groupHistory_85, .inl (cI, 401, .inl (fun _ => 0))), (m_didRide_86, .inl (cZ, 20, .inl (fun _ => 0))), (m_toldRow_87, .inl (cI, 160, .inl (fun _ => 0))), (m_passedBy_88, .inl (cI, 15, .inl (fun _ => 0))), (m_total_89, .inl (cI, 20, .inl (fun _ => 0))), (m_points_90, .inl (cI, 20, .inl (fun _ => 0))), (m_used_91, .inl (cZ, 20, .inl (fun _ => 0)))]) hP hD [56] [0, 1, 2, 3, 4, 5, 6, 7, 8, 9, 10, 11, 12, 13, 14, 15, 16, 17, 18, 19, 20, 21, 22, 23, 24, 25, 26, 27, 28, 29, 30, 31, 32, 33, 34, 35, 36, 37, 38, 39, 40, 41, 42, 43, 44, 45, 46, 47, 48, 49, 50, 51, 52, 53, 54, 55] rfl rfl (by decide) (by decide) hk1 hFc hP1 hD1
  generalize H1 = H at hP hS ⊢
  have hP : va_P (dC, dI) vwCl [(q_1, .inr (9, [.ref x_riders_2, .ref x_road_7, .ref x_tape_11, .ref x_book_13, .ref x_reader_19, .ref x_latest_20, .ref x_log_35, .ref x_trial_38, .ref x_stages_53, .int 0, .int 0, .int 0])), (x_riders_2, .inr (5, [.int 0, .ref x_ri_teams_3, .ref x_ri_steady_4, .ref x_ri_full_5, .ref x_ri_climb_6])), (x_ri_teams_3, .inl (cI, 20, .inl (fun _ => 0))), (x_ri_steady_4, .inl (cI, 20, .inl (fun _ => 0))), (x_ri_full_5, .inl (cI, 20, .inl (fun _ => 0))), (x_ri_climb_6, .inl (cI, 20, .inl (fun _ => 0))), (x_road_7, .inr (6, [.int 1, .ref x_ro_rises_8, .ref x_ro_winds_9, .int 0, .ref x_ro_primeMetres_10, .int 0, .int 0])), (x_ro_rises_8, .inl (cI, 30, .inl (fun _ => 0))), (x_ro_winds_9, .inl (cI, 30, .inl (fun _ => 0))), (x_ro_primeMetres_10, .inl (cI, 5, .inl (fun _ => 0))), (x_tape_11, .inr (8, [.int 0, .ref x_ta_bytes_12])), (x_ta_bytes_12, .inl (cI, 100, .inl (fun _ => 0))), (x_book_13, .inr (1, [.ref x_bo_clauses_14, .ref x_bo_asked_15, .ref x_bo_signs_16, .ref x_bo_numbers_17, .ref x_bo_paces_18])), (x_bo_clauses_14, .inl (cI, 10, .inl (fun _ => 0))), (x_bo_asked_15, .inl (cI, 160, .inl (fun _ => 0))), (x_bo_signs_16, .inl (cI, 160, .inl (fun _ => 0))), (x_bo_numbers_17, .inl (cI, 160, .inl (fun _ => 0))), (x_bo_paces_18, .inl (cI, 160, .inl (fun _ => 0))), (x_reader_19, .inr (2, [.int 0, .int 0, .int 0, .int 0, .int 0])), (x_latest_20, .inr (3, [.int 0, .int 0, .int 0, .long 0, .int 0, .ref x_la_rides_21, .ref x_la_metres_22, .ref x_la_store_23, .ref x_la_seconds_24, .ref x_la_timesHeld_25, .ref x_la_work_26, .ref x_la_heldFor_27, .ref x_la_primeSeconds_28, .ref x_la_orderRows_29, .ref x_la_bunches_30, .ref x_la_values_34])), (x_la_rides_21, .inl (cZ, 20, .inl (fun _ => 0))), (x_la_metres_22, .inl (cI, 20, .inl (fun _ => 0))), (x_la_store_23, .inl (cI, 20, .inl (fun _ => 0))), (x_la_seconds_24, .inl (cI, 20, .inl (fun _ => 0))), (x_la_timesHeld_25, .inl (cI, 20, .inl (fun _ => 0))), (x_la_work_26, .inl (cI, 20, .inl (fun _ => 0))), (x_la_heldFor_27, .inl (cI, 20, .inl (fun _ => 0))), (x_la_primeSeconds_28, .inl (cI, 100, .inl (fun _ => 0))), (x_la_orderRows_29, .inl (cI, 5, .inl (fun _ => 0))), (x_la_bunches_30, .inr (0, [.int 0, .int 0, .ref x_la_bu_order_31, .ref x_la_bu_places_32, .ref x_la_bu_sizes_33])), (x_la_bu_order_31, .inl (cI, 20, .inl (fun _ => 0))), (x_la_bu_places_32, .inl (cI, 20, .inl (fun _ => 0))), (x_la_bu_sizes_33, .inl (cI, 20, .inl (fun _ => 0))), (x_la_values_34, .inl (cI, 5, .inl (fun _ => 0))), (x_log_35, .inr (4, [.ref x_lo_metres_36, .ref x_lo_groups_37])), (x_lo_metres_36, .inl (cI, 8020, .inl (fun _ => 0))), (x_lo_groups_37, .inl (cI, 401, .inl (fun _ => 0))), (x_trial_38, .inr (3, [.int 0, .int 0, .int 0, .long 0, .int 0, .ref x_tr_rides_39, .ref x_tr_metres_40, .ref x_tr_store_41, .ref x_tr_seconds_42, .ref x_tr_timesHeld_43, .ref x_tr_work_44, .ref x_tr_heldFor_45, .ref x_tr_primeSeconds_46, .ref x_tr_orderRows_47, .ref x_tr_bunches_48, .ref x_tr_values_52])), (x_tr_rides_39, .inl (cZ, 20, .inl (fun _ => 0))), (x_tr_metres_40, .inl (cI, 20, .inl (fun _ => 0))), (x_tr_store_41, .inl (cI, 20, .inl (fun _ => 0))), (x_tr_seconds_42, .inl (cI, 20, .inl (fun _ => 0))), (x_tr_timesHeld_43, .inl (cI, 20, .inl (fun _ => 0))), (x_tr_work_44, .inl (cI, 20, .inl (fun _ => 0))), (x_tr_heldFor_45, .inl (cI, 20, .inl (fun _ => 0))), (x_tr_primeSeconds_46, .inl (cI, 100, .inl (fun _ => 0))), (x_tr_orderRows_47, .inl (cI, 5, .inl (fun _ => 0))), (x_tr_bunches_48, .inr (0, [.int 0, .int 0, .ref x_tr_bu_order_49, .ref x_tr_bu_places_50, .ref x_tr_bu_sizes_51])), (x_tr_bu_order_49, .inl (cI, 20, .inl (fun _ => 0))), (x_tr_bu_places_50, .inl (cI, 20, .inl (fun _ => 0))), (x_tr_bu_sizes_51, .inl (cI, 20, .inl (fun _ => 0))), (x_tr_values_52, .inl (cI, 5, .inl (fun _ => 0))), (x_stages_53, .inr (7, [.int 0, .int 20, .ref x_sg_totals_54, .ref x_sg_points_55, .ref x_sg_out_56])), (x_sg_totals_54, .inl (cI, 20, .inl (fun _ => 0))), (x_sg_points_55, .inl (cI, 20, .inl (fun _ => 0))), (x_sg_out_56, .inl (cZ, 20, .inl (fun _ => 0))), (q_57, .inr (10, [.int 0, .int 1, .int 0, .int (-1), .int 0, .int 0, .int 0, .int 20, .ref m_teamOf_58, .ref m_steady_59, .ref m_full_60, .ref m_climb_61, .ref m_rises_62, .ref m_winds_63, .ref m_primeAt_64, .ref m_tape_65, .int 0, .int 0, .int 0, .ref m_clauses_66, .ref m_letter_67, .ref m_sign_68, .ref m_bar_69, .ref m_pace_70, .ref m_rides_71, .ref m_isOut_72, .ref m_metre_73, .ref m_charge_74, .ref m_held_75, .ref m_seconds_76, .ref m_heldOften_77, .ref m_work_78, .ref m_primeSeconds_79, .int 0, .long 0, .ref m_row_80, .int 0, .ref m_groupSize_81, .ref m_place_82, .ref m_stood_83, .ref m_history_84, .ref m_groupHistory_85, .int 0, .int 0, .int 0, .int 0, .ref m_didRide_86, .ref m_toldRow_87, .ref m_passedBy_88, .ref m_total_89, .ref m_points_90, .ref m_used_91])), (m_teamOf_58, .inl (cI, 20, .inl (fun _ => 0))), (m_steady_59, .inl (cI, 20, .inl (fun _ => 0))), (m_full_60, .inl (cI, 20, .inl (fun _ => 0))), (m_climb_61, .inl (cI, 20, .inl (fun _ => 0))), (m_rises_62, .inl (cI, 30, .inl (fun _ => 0))), (m_winds_63, .inl (cI, 30, .inl (fun _ => 0))), (m_primeAt_64, .inl (cI, 5, .inl (fun _ => 0))), (m_tape_65, .inl (cI, 100, .inl (fun _ => 0))), (m_clauses_66, .inl (cI, 10, .inl (fun _ => 0))), (m_letter_67, .inl (cI, 240, .inl (fun _ => 0))), (m_sign_68, .inl (cI, 240, .inl (fun _ => 0))), (m_bar_69, .inl (cI, 240, .inl (fun _ => 0))), (m_pace_70, .inl (cI, 240, .inl (fun _ => 0))), (m_rides_71, .inl (cZ, 20, .inl (fun _ => 0))), (m_isOut_72, .inl (cZ, 20, .inl (fun _ => 0))), (m_metre_73, .inl (cI, 20, .inl (fun _ => 0))), (m_charge_74, .inl (cI, 20, .inl (fun _ => 0))), (m_held_75, .inl (cI, 20, .inl (fun _ => 0))), (m_seconds_76, .inl (cI, 20, .inl (fun _ => 0))), (m_heldOften_77, .inl (cI, 20, .inl (fun _ => 0))), (m_work_78, .inl (cI, 20, .inl (fun _ => 0))), (m_primeSeconds_79, .inl (cI, 100, .inl (fun _ => 0))), (m_row_80, .inl (cI, 20, .inl (fun _ => 0))), (m_groupSize_81, .inl (cI, 20, .inl (fun _ => 0))), (m_place_82, .inl (cI, 20, .inl (fun _ => 0))), (m_stood_83, .inl (cI, 20, .inl (fun _ => 0))), (m_history_84, .inl (cI, 8020, .inl (fun _ => 0))), (m_groupHistory_85, .inl (cI, 401, .inl (fun _ => 0))), (m_didRide_86, .inl (cZ, 20, .inl (fun _ => 0))), (m_toldRow_87, .inl (cI, 160, .inl (fun _ => 0))), (m_passedBy_88, .inl (cI, 15, .inl (fun _ => 0))), (m_total_89, .inl (cI, 20, .inl (fun _ => 0))), (m_points_90, .inl (cI, 20, .inl (fun _ => 0))), (m_used_91, .inl (cZ, 20, .inl (fun _ => 0)))] H := hP
  have hD : va_D (fun q : Nat => s.heap.size ≤ q) [(q_1, .inr (9, [.ref x_riders_2, .ref x_road_7, .ref x_tape_11, .ref x_book_13, .ref x_reader_19, .ref x_latest_20, .ref x_log_35, .ref x_trial_38, .ref x_stages_53, .int 0, .int 0, .int 0])), (x_riders_2, .inr (5, [.int 0, .ref x_ri_teams_3, .ref x_ri_steady_4, .ref x_ri_full_5, .ref x_ri_climb_6])), (x_ri_teams_3, .inl (cI, 20, .inl (fun _ => 0))), (x_ri_steady_4, .inl (cI, 20, .inl (fun _ => 0))), (x_ri_full_5, .inl (cI, 20, .inl (fun _ => 0))), (x_ri_climb_6, .inl (cI, 20, .inl (fun _ => 0))), (x_road_7, .inr (6, [.int 1, .ref x_ro_rises_8, .ref x_ro_winds_9, .int 0, .ref x_ro_primeMetres_10, .int 0, .int 0])), (x_ro_rises_8, .inl (cI, 30, .inl (fun _ => 0))), (x_ro_winds_9, .inl (cI, 30, .inl (fun _ => 0))), (x_ro_primeMetres_10, .inl (cI, 5, .inl (fun _ => 0))), (x_tape_11, .inr (8, [.int 0, .ref x_ta_bytes_12])), (x_ta_bytes_12, .inl (cI, 100, .inl (fun _ => 0))), (x_book_13, .inr (1, [.ref x_bo_clauses_14, .ref x_bo_asked_15, .ref x_bo_signs_16, .ref x_bo_numbers_17, .ref x_bo_paces_18])), (x_bo_clauses_14, .inl (cI, 10, .inl (fun _ => 0))), (x_bo_asked_15, .inl (cI, 160, .inl (fun _ => 0))), (x_bo_signs_16, .inl (cI, 160, .inl (fun _ => 0))), (x_bo_numbers_17, .inl (cI, 160, .inl (fun _ => 0))), (x_bo_paces_18, .inl (cI, 160, .inl (fun _ => 0))), (x_reader_19, .inr (2, [.int 0, .int 0, .int 0, .int 0, .int 0])), (x_latest_20, .inr (3, [.int 0, .int 0, .int 0, .long 0, .int 0, .ref x_la_rides_21, .ref x_la_metres_22, .ref x_la_store_23, .ref x_la_seconds_24, .ref x_la_timesHeld_25, .ref x_la_work_26, .ref x_la_heldFor_27, .ref x_la_primeSeconds_28, .ref x_la_orderRows_29, .ref x_la_bunches_30, .ref x_la_values_34])), (x_la_rides_21, .inl (cZ, 20, .inl (fun _ => 0))), (x_la_metres_22, .inl (cI, 20, .inl (fun _ => 0))), (x_la_store_23, .inl (cI, 20, .inl (fun _ => 0))), (x_la_seconds_24, .inl (cI, 20, .inl (fun _ => 0))), (x_la_timesHeld_25, .inl (cI, 20, .inl (fun _ => 0))), (x_la_work_26, .inl (cI, 20, .inl (fun _ => 0))), (x_la_heldFor_27, .inl (cI, 20, .inl (fun _ => 0))), (x_la_primeSeconds_28, .inl (cI, 100, .inl (fun _ => 0))), (x_la_orderRows_29, .inl (cI, 5, .inl (fun _ => 0))), (x_la_bunches_30, .inr (0, [.int 0, .int 0, .ref x_la_bu_order_31, .ref x_la_bu_places_32, .ref x_la_bu_sizes_33])), (x_la_bu_order_31, .inl (cI, 20, .inl (fun _ => 0))), (x_la_bu_places_32, .inl (cI, 20, .inl (fun _ => 0))), (x_la_bu_sizes_33, .inl (cI, 20, .inl (fun _ => 0))), (x_la_values_34, .inl (cI, 5, .inl (fun _ => 0))), (x_log_35, .inr (4, [.ref x_lo_metres_36, .ref x_lo_groups_37])), (x_lo_metres_36, .inl (cI, 8020, .inl (fun _ => 0))), (x_lo_groups_37, .inl (cI, 401, .inl (fun _ => 0))), (x_trial_38, .inr (3, [.int 0, .int 0, .int 0, .long 0, .int 0, .ref x_tr_rides_39, .ref x_tr_metres_40, .ref x_tr_store_41, .ref x_tr_seconds_42, .ref x_tr_timesHeld_43, .ref x_tr_work_44, .ref x_tr_heldFor_45, .ref x_tr_primeSeconds_46, .ref x_tr_orderRows_47, .ref x_tr_bunches_48, .ref x_tr_values_52])), (x_tr_rides_39, .inl (cZ, 20, .inl (fun _ => 0))), (x_tr_metres_40, .inl (cI, 20, .inl (fun _ => 0))), (x_tr_store_41, .inl (cI, 20, .inl (fun _ => 0))), (x_tr_seconds_42, .inl (cI, 20, .inl (fun _ => 0))), (x_tr_timesHeld_43, .inl (cI, 20, .inl (fun _ => 0))), (x_tr_work_44, .inl (cI, 20, .inl (fun _ => 0))), (x_tr_heldFor_45, .inl (cI, 20, .inl (fun _ => 0))), (x_tr_primeSeconds_46, .inl (cI, 100, .inl (fun _ => 0))), (x_tr_orderRows_47, .inl (cI, 5, .inl (fun _ => 0))), (x_tr_bunches_48, .inr (0, [.int 0, .int 0, .ref x_tr_bu_order_49, .ref x_tr_bu_places_50, .ref x_tr_bu_sizes_51])), (x_tr_bu_order_49, .inl (cI, 20, .inl (fun _ => 0))), (x_tr_bu_places_50, .inl (cI, 20, .inl (fun _ => 0))), (x_tr_bu_sizes_51, .inl (cI, 20, .inl (fun _ => 0))), (x_tr_values_52, .inl (cI, 5, .inl (fun _ => 0))), (x_stages_53, .inr (7, [.int 0, .int 20, .ref x_sg_totals_54, .ref x_sg_points_55, .ref x_sg_out_56])), (x_sg_totals_54, .inl (cI, 20, .inl (fun _ => 0))), (x_sg_points_55, .inl (cI, 20, .inl (fun _ => 0))), (x_sg_out_56, .inl (cZ, 20, .inl (fun _ => 0))), (q_57, .inr (10, [.int 0, .int 1, .int 0, .int (-1), .int 0, .int 0, .int 0, .int 20, .ref m_teamOf_58, .ref m_steady_59, .ref m_full_60, .ref m_climb_61, .ref m_rises_62, .ref m_winds_63, .ref m_primeAt_64, .ref m_tape_65, .int 0, .int 0, .int 0, .ref m_clauses_66, .ref m_letter_67, .ref m_sign_68, .ref m_bar_69, .ref m_pace_70, .ref m_rides_71, .ref m_isOut_72, .ref m_metre_73, .ref m_charge_74, .ref m_held_75, .ref m_seconds_76, .ref m_heldOften_77, .ref m_work_78, .ref m_primeSeconds_79, .int 0, .long 0, .ref m_row_80, .int 0, .ref m_groupSize_81, .ref m_place_82, .ref m_stood_83, .ref m_history_84, .ref m_groupHistory_85, .int 0, .int 0, .int 0, .int 0, .ref m_didRide_86, .ref m_toldRow_87, .ref m_passedBy_88, .ref m_total_89, .ref m_points_90, .ref m_used_91])), (m_teamOf_58, .inl (cI, 20, .inl (fun _ => 0))), (m_steady_59, .inl (cI, 20, .inl (fun _ => 0))), (m_full_60, .inl (cI, 20, .inl (fun _ => 0))), (m_climb_61, .inl (cI, 20, .inl (fun _ => 0))), (m_rises_62, .inl (cI, 30, .inl (fun _ => 0))), (m_winds_63, .inl (cI, 30, .inl (fun _ => 0))), (m_primeAt_64, .inl (cI, 5, .inl (fun _ => 0))), (m_tape_65, .inl (cI, 100, .inl (fun _ => 0))), (m_clauses_66, .inl (cI, 10, .inl (fun _ => 0))), (m_letter_67, .inl (cI, 240, .inl (fun _ => 0))), (m_sign_68, .inl (cI, 240, .inl (fun _ => 0))), (m_bar_69, .inl (cI, 240, .inl (fun _ => 0))), (m_pace_70, .inl (cI, 240, .inl (fun _ => 0))), (m_rides_71, .inl (cZ, 20, .inl (fun _ => 0))), (m_isOut_72, .inl (cZ, 20, .inl (fun _ => 0))), (m_metre_73, .inl (cI, 20, .inl (fun _ => 0))), (m_charge_74, .inl (cI, 20, .inl (fun _ => 0))), (m_held_75, .inl (cI, 20, .inl (fun _ => 0))), (m_seconds_76, .inl (cI, 20, .inl (fun _ => 0))), (m_heldOften_77, .inl (cI, 20, .inl (fun _ => 0))), (m_work_78, .inl (cI, 20, .inl (fun _ => 0))), (m_primeSeconds_79, .inl (cI, 100, .inl (fun _ => 0))), (m_row_80, .inl (cI, 20, .inl (fun _ => 0))), (m_groupSize_81, .inl (cI, 20, .inl (fun _ => 0))), (m_place_82, .inl (cI, 20, .inl (fun _ => 0))), (m_stood_83, .inl (cI, 20, .inl (fun _ => 0))), (m_history_84, .inl (cI, 8020, .inl (fun _ => 0))), (m_groupHistory_85, .inl (cI, 401, .inl (fun _ => 0))), (m_didRide_86, .inl (cZ, 20, .inl (fun _ => 0))), (m_toldRow_87, .inl (cI, 160, .inl (fun _ => 0))), (m_passedBy_88, .inl (cI, 15, .inl (fun _ => 0))), (m_total_89, .inl (cI, 20, .inl (fun _ => 0))), (m_points_90, .inl (cI, 20, .inl (fun _ => 0))), (m_used_91, .inl (cZ, 20, .inl (fun _ => 0)))] := hD
  refine lv_astore_n (lv' := [(2, .ref q_57), (1, .ref q_1), (0, .ref b)]) hx hb dL_law_15 rfl hl (by decide) rfl (fun ls hl => ?_)
  refine lv_iconst (v := 0) hx hb dL_law_16 (by decide) ?_
  refine lv_istore_n (lv' := [(3, .int 0), (2, .ref q_57), (1, .ref q_1), (0, .ref b)]) hx hb dL_law_17 rfl hl (by decide) rfl (fun ls hl => ?_)
  refine lv_iload_n hx hb dL_law_18 rfl (lv_at hl 0 rfl) ?_
  refine lv_aload_n hx hb dL_law_19 rfl (lv_at hl 3 rfl) ?_
  refine va_slen hx hb hX hbl hbA hS dL_law_20 ?_
  refine lv_bipush (v := 7) hx hb dL_law_21 (by decide) ?_
  refine lv_isub hx hb dL_law_23 ?_
  refine lv_topi (fun v_92 ev_92 => ?_)
  have hv_92 : v_92.toInt = ((L : Int) - (7:Int)) := by rw [ev_92]; exact zz_subI (nI_toInt (by omega)) (by decide) (by omega) (by omega)
  refine lv_icmp_gt (tgt := 937) hx hb dL_law_24 (by decide) (fun c_93 => ?_) (fun c_93 => ?_)
  ·
    have c_93 : ((L : Int) - (7:Int)) < (0:Int) := zz_lt hv_92 (by decide) c_93
    refine lv_iconst (v := 1) hx hb dL_law_937 (by decide) ?_
    refine va_forget (fun q hq => hS.2.2 q hq) ?_
    refine W.widen (k := 91) (n := 20364) (Nat.le_of_ble_eq_true rfl) (Nat.le_of_ble_eq_true rfl) ?_
    exact lw_ret hx hb hr hlocks dL_law_938
  ·
    have c_93 : ¬ (((L : Int) - (7:Int)) < (0:Int)) := zz_ltn hv_92 (by decide) c_93
    refine lv_aload_n hx hb dL_law_27 rfl (lv_at hl 3 rfl) ?_
    refine lv_iload_n hx hb dL_law_28 rfl (lv_at hl 0 rfl) ?_
    refine va_sld hx hb hX hbl hbA hS (zz_in (a := (0:Int)) (by decide) (by omega) (by omega)) dL_law_29 ?_
    refine lv_bipush (v := 31) hx hb dL_law_30 (by decide) ?_
    refine lv_iand hx hb dL_law_32 ?_
    refine lv_topi (fun v_94 ev_94 => ?_)
    have hv_94 : 0 ≤ v_94.toInt ∧ v_94.toInt ≤ 31 := by obtain ⟨j9, hj9, ej9⟩ := pk_andE (xs (Int32.toNatClampNeg 0)) (m := 31) 5 (by decide); rw [ev_94, ej9, nI_toInt (by omega)]; omega
    have hs_95 : (v_94 : Int32).toInt = (v_94).toInt := rfl
    rcases (show (v_94).toInt < 0 ∨ 22 < (v_94).toInt ∨ (v_94).toInt = 0 ∨ (v_94).toInt = 1 ∨ (v_94).toInt = 2 ∨ (v_94).toInt = 3 ∨ (v_94).toInt = 4 ∨ (v_94).toInt = 5 ∨ (v_94).toInt = 6 ∨ (v_94).toInt = 7 ∨ (v_94).toInt = 8 ∨ (v_94).toInt = 9 ∨ (v_94).toInt = 10 ∨ (v_94).toInt = 11 ∨ (v_94).toInt = 12 ∨ (v_94).toInt = 13 ∨ (v_94).toInt = 14 ∨ (v_94).toInt = 15 ∨ (v_94).toInt = 16 ∨ (v_94).toInt = 17 ∨ (v_94).toInt = 18 ∨ (v_94).toInt = 19 ∨ (v_94).toInt = 20 ∨ (v_94).toInt = 21 ∨ (v_94).toInt = 22 by omega) with q_96 | q_96 | q_96 | q_96 | q_96 | q_96 | q_96 | q_96 | q_96 | q_96 | q_96 | q_96 | q_96 | q_96 | q_96 | q_96 | q_96 | q_96 | q_96 | q_96 | q_96 | q_96 | q_96 | q_96 | q_96
    ·
      refine lv_tableOut (tgt := 931) hx hb dL_law_33 (by rw [hs_95]; omega) (by decide) ?_
      refine lv_iinc (v := 7) (lv' := [(3, .int 7), (2, .ref q_57), (1, .ref q_1), (0, .ref b)]) hx hb dL_law_931 hl (k := 0) rfl (by decide) (by decide) rfl (fun ls hl => ?_)
      refine lv_goto (tgt := 18) hx hb dL_law_934 (by decide) ?_
      refine lv_iload_n hx hb dL_law_18 rfl (lv_at hl 0 rfl) ?_
      refine lv_aload_n hx hb dL_law_19 rfl (lv_at hl 3 rfl) ?_
      refine va_slen hx hb hX hbl hbA hS dL_law_20 ?_
      refine lv_bipush (v := 7) hx hb dL_law_21 (by decide) ?_
      refine lv_isub hx hb dL_law_23 ?_
      refine lv_topi (fun v_97 ev_97 => ?_)
      have hv_97 : v_97.toInt = ((L : Int) - (7:Int)) := by rw [ev_97]; exact zz_subI (nI_toInt (by omega)) (by decide) (by omega) (by omega)
      refine lv_icmp_gt (tgt := 937) hx hb dL_law_24 (by decide) (fun c_98 => ?_) (fun c_98 => ?_)
      ·
        have c_98 : ((L : Int) - (7:Int)) < (7:Int) := zz_lt hv_97 (by decide) c_98
        refine lv_iconst (v := 1) hx hb dL_law_937 (by decide) ?_
        refine va_forget (fun q hq => hS.2.2 q hq) ?_
        refine W.widen (k := 91) (n := 20364) (Nat.le_of_ble_eq_true rfl) (Nat.le_of_ble_eq_true rfl) ?_
        exact lw_ret hx hb hr hlocks dL_law_938
      ·
        have c_98 : ¬ (((L : Int) - (7:Int)) < (7:Int)) := zz_ltn hv_97 (by decide) c_98
        exact absurd c_98 (by omega)
    ·
      refine lv_tableOut (tgt := 931) hx hb dL_law_33 (by rw [hs_95]; omega) (by decide) ?_
      refine lv_iinc (v := 7) (lv' := [(3, .int 7), (2, .ref q_57), (1, .ref q_1), (0, .ref b)]) hx hb dL_law_931 hl (k := 0) rfl (by decide) (by decide) rfl (fun ls hl => ?_)
      refine lv_goto (tgt := 18) hx hb dL_law_934 (by decide) ?_
      refine lv_iload_n hx hb dL_law_18 rfl (lv_at hl 0 rfl) ?_
      refine lv_aload_n hx hb dL_law_19 rfl (lv_at hl 3 rfl) ?_
      refine va_slen hx hb hX hbl hbA hS dL_law_20 ?_
      refine lv_bipush (v := 7) hx hb dL_law_21 (by decide) ?_
      refine lv_isub hx hb dL_law_23 ?_
      refine lv_topi (fun v_99 ev_99 => ?_)
      have hv_99 : v_99.toInt = ((L : Int) - (7:Int)) := by rw [ev_99]; exact zz_subI (nI_toInt (by omega)) (by decide) (by omega) (by omega)
      refine lv_icmp_gt (tgt := 937) hx hb dL_law_24 (by decide) (fun c_100 => ?_) (fun c_100 => ?_)
      ·
        have c_100 : ((L : Int) - (7:Int)) < (7:Int) := zz_lt hv_99 (by decide) c_100
        refine lv_iconst (v := 1) hx hb dL_law_937 (by decide) ?_
        refine va_forget (fun q hq => hS.2.2 q hq) ?_
        refine W.widen (k := 91) (n := 20364) (Nat.le_of_ble_eq_true rfl) (Nat.le_of_ble_eq_true rfl) ?_
        exact lw_ret hx hb hr hlocks dL_law_938
      ·
        have c_100 : ¬ (((L : Int) - (7:Int)) < (7:Int)) := zz_ltn hv_99 (by decide) c_100
        exact absurd c_100 (by omega)
    ·
      refine lv_tableIn (tgt := 140) (off := 107) hx hb dL_law_33 (by rw [hs_95]; omega) (by rw [hs_95]; omega) (by rw [hs_95, q_96]; rfl) (by decide) ?_
      have hP := hP.sub (ws' := [(q_1, .inr (9, [.ref x_riders_2, .ref x_road_7, .ref x_tape_11, .ref x_book_13, .ref x_reader_19, .ref x_latest_20, .ref x_log_35, .ref x_trial_38, .ref x_stages_53, .int 0, .int 0, .int 0])), (x_riders_2, .inr (5, [.int 0, .ref x_ri_teams_3, .ref x_ri_steady_4, .ref x_ri_full_5, .ref x_ri_climb_6])), (x_ri_teams_3, .inl (cI, 20, .inl (fun _ => 0))), (x_ri_steady_4, .inl (cI, 20, .inl (fun _ => 0))), (x_ri_full_5, .inl (cI, 20, .inl (fun _ => 0))), (x_ri_climb_6, .inl (cI, 20, .inl (fun _ => 0))), (x_stages_53, .inr (7, [.int 0, .int 20, .ref x_sg_totals_54, .ref x_sg_points_55, .ref x_sg_out_56])), (q_57, .inr (10, [.int 0, .int 1, .int 0, .int (-1), .int 0, .int 0, .int 0, .int 20, .ref m_teamOf_58, .ref m_steady_59, .ref m_full_60, .ref m_climb_61, .ref m_rises_62, .ref m_winds_63, .ref m_primeAt_64, .ref m_tape_65, .int 0, .int 0, .int 0, .ref m_clauses_66, .ref m_letter_67, .ref m_sign_68, .ref m_bar_69, .ref m_pace_70, .ref m_rides_71, .ref m_isOut_72, .ref m_metre_73, .ref m_charge_74, .ref m_held_75, .ref m_seconds_76, .ref m_heldOften_77, .ref m_work_78, .ref m_primeSeconds_79, .int 0, .long 0, .ref m_row_80, .int 0, .ref m_groupSize_81, .ref m_place_82, .ref m_stood_83, .ref m_history_84, .ref m_groupHistory_85, .int 0, .int 0, .int 0, .int 0, .ref m_didRide_86, .ref m_toldRow_87, .ref m_passedBy_88, .ref m_total_89, .ref m_points_90, .ref m_used_91])), (m_teamOf_58, .inl (cI, 20, .inl (fun _ => 0))), (m_steady_59, .inl (cI, 20, .inl (fun _ => 0))), (m_full_60, .inl (cI, 20, .inl (fun _ => 0))), (m_climb_61, .inl (cI, 20, .inl (fun _ => 0)))]) [0, 1, 2, 3, 4, 5, 52, 56, 57, 58, 59, 60] rfl
      have hD := hD.sub (ws' := [(q_1, .inr (9, [.ref x_riders_2, .ref x_road_7, .ref x_tape_11, .ref x_book_13, .ref x_reader_19, .ref x_latest_20, .ref x_log_35, .ref x_trial_38, .ref x_stages_53, .int 0, .int 0, .int 0])), (x_riders_2, .inr (5, [.int 0, .ref x_ri_teams_3, .ref x_ri_steady_4, .ref x_ri_full_5, .ref x_ri_climb_6])), (x_ri_teams_3, .inl (cI, 20, .inl (fun _ => 0))), (x_ri_steady_4, .inl (cI, 20, .inl (fun _ => 0))), (x_ri_full_5, .inl (cI, 20, .inl (fun _ => 0))), (x_ri_climb_6, .inl (cI, 20, .inl (fun _ => 0))), (x_stages_53, .inr (7, [.int 0, .int 20, .ref x_sg_totals_54, .ref x_sg_points_55, .ref x_sg_out_56])), (q_57, .inr (10, [.int 0, .int 1, .int 0, .int (-1), .int 0, .int 0, .int 0, .int 20, .ref m_teamOf_58, .ref m_steady_59, .ref m_full_60, .ref m_climb_61, .ref m_rises_62, .ref m_winds_63, .ref m_primeAt_64, .ref m_tape_65, .int 0, .int 0, .int 0, .ref m_clauses_66, .ref m_letter_67, .ref m_sign_68, .ref m_bar_69, .ref m_pace_70, .ref m_rides_71, .ref m_isOut_72, .ref m_metre_73, .ref m_charge_74, .ref m_held_75, .ref m_seconds_76, .ref m_heldOften_77, .ref m_work_78, .ref m_primeSeconds_79, .int 0, .long 0, .ref m_row_80, .int 0, .ref m_groupSize_81, .ref m_place_82, .ref m_stood_83, .ref m_history_84, .ref m_groupHistory_85, .int 0, .int 0, .int 0, .int 0, .ref m_didRide_86, .ref m_toldRow_87, .ref m_passedBy_88, .ref m_total_89, .ref m_points_90, .ref m_used_91])), (m_teamOf_58, .inl (cI, 20, .inl (fun _ => 0))), (m_steady_59, .inl (cI, 20, .inl (fun _ => 0))), (m_full_60, .inl (cI, 20, .inl (fun _ => 0))), (m_climb_61, .inl (cI, 20, .inl (fun _ => 0)))]) [0, 1, 2, 3, 4, 5, 52, 56, 57, 58, 59, 60] (by decide) rfl
      refine lv_aload_n hx hb dL_law_140 rfl (lv_at hl 2 rfl) ?_
      refine lv_aload_n hx hb dL_law_141 rfl (lv_at hl 3 rfl) ?_
      refine lv_iload_n hx hb dL_law_142 rfl (lv_at hl 0 rfl) ?_
      refine lv_iconst (v := 1) hx hb dL_law_143 (by decide) ?_
      refine lv_iadd hx hb dL_law_144 ?_
      refine lv_topi (fun v_101 ev_101 => ?_)
      obtain rfl : v_101 = 1 := ev_101.trans (by decide)
      refine va_sld hx hb hX hbl hbA hS (zz_in (a := (1:Int)) (by decide) (by omega) (by omega)) dL_law_145 ?_
      refine lv_aload_n hx hb dL_law_146 rfl (lv_at hl 3 rfl) ?_
      refine lv_iload_n hx hb dL_law_147 rfl (lv_at hl 0 rfl) ?_
      refine lv_iconst (v := 2) hx hb dL_law_148 (by decide) ?_
      refine lv_iadd hx hb dL_law_149 ?_
      refine lv_topi (fun v_102 ev_102 => ?_)
      obtain rfl : v_102 = 2 := ev_102.trans (by decide)
      refine va_sld hx hb hX hbl hbA hS (zz_in (a := (2:Int)) (by decide) (by omega) (by omega)) dL_law_150 ?_
      refine lv_aload_n hx hb dL_law_151 rfl (lv_at hl 3 rfl) ?_
      refine lv_iload_n hx hb dL_law_152 rfl (lv_at hl 0 rfl) ?_
      refine lv_iconst (v := 3) hx hb dL_law_153 (by decide) ?_
      refine lv_iadd hx hb dL_law_154 ?_
      refine lv_topi (fun v_103 ev_103 => ?_)
      obtain rfl : v_103 = 3 := ev_103.trans (by decide)
      refine va_sld hx hb hX hbl hbA hS (zz_in (a := (3:Int)) (by decide) (by omega) (by omega)) dL_law_155 ?_
      refine lv_aload_n hx hb dL_law_156 rfl (lv_at hl 3 rfl) ?_
      refine lv_iload_n hx hb dL_law_157 rfl (lv_at hl 0 rfl) ?_
      refine lv_iconst (v := 4) hx hb dL_law_158 (by decide) ?_
      refine lv_iadd hx hb dL_law_159 ?_
      refine lv_topi (fun v_104 ev_104 => ?_)
      obtain rfl : v_104 = 4 := ev_104.trans (by decide)
      refine va_sld hx hb hX hbl hbA hS (zz_in (a := (4:Int)) (by decide) (by omega) (by omega)) dL_law_160 ?_
      have hPc := hP.sub (ws' := [(q_1, .inr (9, [.ref x_riders_2, .ref x_road_7, .ref x_tape_11, .ref x_book_13, .ref x_reader_19, .ref x_latest_20, .ref x_log_35, .ref x_trial_38, .ref x_stages_53, .int 0, .int 0, .int 0])), (x_riders_2, .inr (5, [.int 0, .ref x_ri_teams_3, .ref x_ri_steady_4, .ref x_ri_full_5, .ref x_ri_climb_6])), (x_ri_teams_3, .inl (cI, 20, .inl (fun _ => 0))), (x_ri_steady_4, .inl (cI, 20, .inl (fun _ => 0))), (x_ri_full_5, .inl (cI, 20, .inl (fun _ => 0))), (x_ri_climb_6, .inl (cI, 20, .inl (fun _ => 0))), (x_stages_53, .inr (7, [.int 0, .int 20, .ref x_sg_totals_54, .ref x_sg_points_55, .ref x_sg_out_56]))]) [0, 1, 2, 3, 4, 5, 6] rfl
      have hDc := hD.sub (ws' := [(q_1, .inr (9, [.ref x_riders_2, .ref x_road_7, .ref x_tape_11, .ref x_book_13, .ref x_reader_19, .ref x_latest_20, .ref x_log_35, .ref x_trial_38, .ref x_stages_53, .int 0, .int 0, .int 0])), (x_riders_2, .inr (5, [.int 0, .ref x_ri_teams_3, .ref x_ri_steady_4, .ref x_ri_full_5, .ref x_ri_climb_6])), (x_ri_teams_3, .inl (cI, 20, .inl (fun _ => 0))), (x_ri_steady_4, .inl (cI, 20, .inl (fun _ => 0))), (x_ri_full_5, .inl (cI, 20, .inl (fun _ => 0))), (x_ri_climb_6, .inl (cI, 20, .inl (fun _ => 0))), (x_stages_53, .inr (7, [.int 0, .int 20, .ref x_sg_totals_54, .ref x_sg_points_55, .ref x_sg_out_56]))]) [0, 1, 2, 3, 4, 5, 6] (by decide) rfl
      have hFc := va_free (wc := [(q_1, .inr (9, [.ref x_riders_2, .ref x_road_7, .ref x_tape_11, .ref x_book_13, .ref x_reader_19, .ref x_latest_20, .ref x_log_35, .ref x_trial_38, .ref x_stages_53, .int 0, .int 0, .int 0])), (x_riders_2, .inr (5, [.int 0, .ref x_ri_teams_3, .ref x_ri_steady_4, .ref x_ri_full_5, .ref x_ri_climb_6])), (x_ri_teams_3, .inl (cI, 20, .inl (fun _ => 0))), (x_ri_steady_4, .inl (cI, 20, .inl (fun _ => 0))), (x_ri_full_5, .inl (cI, 20, .inl (fun _ => 0))), (x_ri_climb_6, .inl (cI, 20, .inl (fun _ => 0))), (x_stages_53, .inr (7, [.int 0, .int 20, .ref x_sg_totals_54, .ref x_sg_points_55, .ref x_sg_out_56]))]) hD hS hA [0, 1, 2, 3, 4, 5, 6] rfl
      refine va_calli (va_runV (As := [.int (xs (Int32.toNatClampNeg 1)), .int (xs (Int32.toNatClampNeg 2)), .int (xs (Int32.toNatClampNeg 3)), .int (xs (Int32.toNatClampNeg 4))]) (rest := []) ⟨hx, hb, hml, hown, hts⟩ (c_X9_rider l dC dI cI cZ (H).size q_1 x_riders_2 x_road_7 x_tape_11 x_book_13 x_reader_19 x_latest_20 x_log_35 x_trial_38 x_stages_53 x_ri_teams_3 x_ri_steady_4 x_ri_full_5 x_ri_climb_6 x_sg_totals_54 x_sg_points_55 x_sg_out_56 (xs (Int32.toNatClampNeg 1)) ((xs (Int32.toNatClampNeg 1)).toInt) rfl (xs (Int32.toNatClampNeg 2)) ((xs (Int32.toNatClampNeg 2)).toInt) rfl (xs (Int32.toNatClampNeg 3)) ((xs (Int32.toNatClampNeg 3)).toInt) rfl (xs (Int32.toNatClampNeg 4)) ((xs (Int32.toNatClampNeg 4)).toInt) rfl) ⟨callB_of 4 hts (zz_goodL zw_374) rfl rfl rfl hw2 hw10 (by decide +kernel) ⟨Nat.le_of_ble_eq_true rfl, Nat.le_of_ble_eq_true rfl⟩, hw11, hw12⟩ ⟨fun a U g mk q => by obtain ⟨q0, q1, qP, qK, qD, qN0⟩ := q; exact ⟨q0, q1, qP, va_K.moved (u := U) (U := U.calling g mk a) (Vm.Alike.refl U.vm) qK, qD, va_Nw.same rfl rfl qN0⟩, va_recv hK hPc (ci := 9) (q0 := 0) rfl rfl, fun U hU hW => ⟨rfl, by rw [hU], by rw [hU]; exact hPc, va_K.moved hW.alike hK, hDc.weaken (fun _ _ _ _ => trivial), va_Nw.warmM hW hnX5_28⟩⟩ rfl rfl hl.1 rfl (lv_room (Nat.le_of_ble_eq_true rfl)) dL_law_161 ⟨Nat.le_of_ble_eq_true rfl, Nat.le_of_ble_eq_true rfl⟩) hS (fun q _ h => hFc q h) hFc (fun r_105 u t H1 locs ht hvm hpost hB hz1 hk1 hS => ?_)
      subst hpost
      obtain ⟨hf_106, hP1, hK1, hD1⟩ := hB
      rw [ht] at hP1
      obtain ⟨hP, hD⟩ := va_join (wr := [(q_57, .inr (10, [.int 0, .int 1, .int 0, .int (-1), .int 0, .int 0, .int 0, .int 20, .ref m_teamOf_58, .ref m_steady_59, .ref m_full_60, .ref m_climb_61, .ref m_rises_62, .ref m_winds_63, .ref m_primeAt_64, .ref m_tape_65, .int 0, .int 0, .int 0, .ref m_clauses_66, .ref m_letter_67, .ref m_sign_68, .ref m_bar_69, .ref m_pace_70, .ref m_rides_71, .ref m_isOut_72, .ref m_metre_73, .ref m_charge_74, .ref m_held_75, .ref m_seconds_76, .ref m_heldOften_77, .ref m_work_78, .ref m_primeSeconds_79, .int 0, .long 0, .ref m_row_80, .int 0, .ref m_groupSize_81, .ref m_place_82, .ref m_stood_83, .ref m_history_84, .ref m_groupHistory_85, .int 0, .int 0, .int 0, .int 0, .ref m_didRide_86, .ref m_toldRow_87, .ref m_passedBy_88, .ref m_total_89, .ref m_points_90, .ref m_used_91])), (m_teamOf_58, .inl (cI, 20, .inl (fun _ => 0))), (m_steady_59, .inl (cI, 20, .inl (fun _ => 0))), (m_full_60, .inl (cI, 20, .inl (fun _ => 0))), (m_climb_61, .inl (cI, 20, .inl (fun _ => 0)))]) (w1 := []) hP hD [0, 1, 2, 3, 4, 5, 6] [7, 8, 9, 10, 11] rfl rfl (by decide) (by decide) hk1 hFc hP1 hD1
      generalize H1 = H at hP hS ⊢
      have hP : va_P (dC, dI) vwCl [(q_57, .inr (10, [.int 0, .int 1, .int 0, .int (-1), .int 0, .int 0, .int 0, .int 20, .ref m_teamOf_58, .ref m_steady_59, .ref m_full_60, .ref m_climb_61, .ref m_rises_62, .ref m_winds_63, .ref m_primeAt_64, .ref m_tape_65, .int 0, .int 0, .int 0, .ref m_clauses_66, .ref m_letter_67, .ref m_sign_68, .ref m_bar_69, .ref m_pace_70, .ref m_rides_71, .ref m_isOut_72, .ref m_metre_73, .ref m_charge_74, .ref m_held_75, .ref m_seconds_76, .ref m_heldOften_77, .ref m_work_78, .ref m_primeSeconds_79, .int 0, .long 0, .ref m_row_80, .int 0, .ref m_groupSize_81, .ref m_place_82, .ref m_stood_83, .ref m_history_84, .ref m_groupHistory_85, .int 0, .int 0, .int 0, .int 0, .ref m_didRide_86, .ref m_toldRow_87, .ref m_passedBy_88, .ref m_total_89, .ref m_points_90, .ref m_used_91])), (m_teamOf_58, .inl (cI, 20, .inl (fun _ => 0))), (m_steady_59, .inl (cI, 20, .inl (fun _ => 0))), (m_full_60, .inl (cI, 20, .inl (fun _ => 0))), (m_climb_61, .inl (cI, 20, .inl (fun _ => 0)))] H := hP
      have hD : va_D (fun q : Nat => s.heap.size ≤ q) [(q_57, .inr (10, [.int 0, .int 1, .int 0, .int (-1), .int 0, .int 0, .int 0, .int 20, .ref m_teamOf_58, .ref m_steady_59, .ref m_full_60, .ref m_climb_61, .ref m_rises_62, .ref m_winds_63, .ref m_primeAt_64, .ref m_tape_65, .int 0, .int 0, .int 0, .ref m_clauses_66, .ref m_letter_67, .ref m_sign_68, .ref m_bar_69, .ref m_pace_70, .ref m_rides_71, .ref m_isOut_72, .ref m_metre_73, .ref m_charge_74, .ref m_held_75, .ref m_seconds_76, .ref m_heldOften_77, .ref m_work_78, .ref m_primeSeconds_79, .int 0, .long 0, .ref m_row_80, .int 0, .ref m_groupSize_81, .ref m_place_82, .ref m_stood_83, .ref m_history_84, .ref m_groupHistory_85, .int 0, .int 0, .int 0, .int 0, .ref m_didRide_86, .ref m_toldRow_87, .ref m_passedBy_88, .ref m_total_89, .ref m_points_90, .ref m_used_91])), (m_teamOf_58, .inl (cI, 20, .inl (fun _ => 0))), (m_steady_59, .inl (cI, 20, .inl (fun _ => 0))), (m_full_60, .inl (cI, 20, .inl (fun _ => 0))), (m_climb_61, .inl (cI, 20, .inl (fun _ => 0)))] := hD
      have hf_106 : ((0 ≤ ((xs (Int32.toNatClampNeg 1)).toInt) ∧ ((xs (Int32.toNatClampNeg 1)).toInt) ≤ 4 ∧ 1 ≤ ((xs (Int32.toNatClampNeg 2)).toInt) ∧ ((xs (Int32.toNatClampNeg 2)).toInt) ≤ 60 ∧ 0 ≤ ((xs (Int32.toNatClampNeg 3)).toInt) ∧ ((xs (Int32.toNatClampNeg 3)).toInt) ≤ 2000 ∧ 0 ≤ ((xs (Int32.toNatClampNeg 4)).toInt) ∧ ((xs (Int32.toNatClampNeg 4)).toInt) ≤ 50) ∧ r_105.toInt = 0) ∨ (¬ (0 ≤ ((xs (Int32.toNatClampNeg 1)).toInt) ∧ ((xs (Int32.toNatClampNeg 1)).toInt) ≤ 4 ∧ 1 ≤ ((xs (Int32.toNatClampNeg 2)).toInt) ∧ ((xs (Int32.toNatClampNeg 2)).toInt) ≤ 60 ∧ 0 ≤ ((xs (Int32.toNatClampNeg 3)).toInt) ∧ ((xs (Int32.toNatClampNeg 3)).toInt) ≤ 2000 ∧ 0 ≤ ((xs (Int32.toNatClampNeg 4)).toInt) ∧ ((xs (Int32.toNatClampNeg 4)).toInt) ≤ 50) ∧ r_105.toInt = -1) := hf_106
      refine lv_aload_n hx hb dL_law_164 rfl (lv_at hl 1 rfl) ?_
      refine lv_aload_n hx hb dL_law_165 rfl (lv_at hl 3 rfl) ?_
      refine lv_iload_n hx hb dL_law_166 rfl (lv_at hl 0 rfl) ?_
      refine lv_iconst (v := 1) hx hb dL_law_167 (by decide) ?_
      refine lv_iadd hx hb dL_law_168 ?_
      refine lv_topi (fun v_107 ev_107 => ?_)
      obtain rfl : v_107 = 1 := ev_107.trans (by decide)
      refine va_sld hx hb hX hbl hbA hS (zz_in (a := (1:Int)) (by decide) (by omega) (by omega)) dL_law_169 ?_
      refine lv_aload_n hx hb dL_law_170 rfl (lv_at hl 3 rfl) ?_
      refine lv_iload_n hx hb dL_law_171 rfl (lv_at hl 0 rfl) ?_
      refine lv_iconst (v := 2) hx hb dL_law_172 (by decide) ?_
      refine lv_iadd hx hb dL_law_173 ?_
      refine lv_topi (fun v_108 ev_108 => ?_)
      obtain rfl : v_108 = 2 := ev_108.trans (by decide)
      refine va_sld hx hb hX hbl hbA hS (zz_in (a := (2:Int)) (by decide) (by omega) (by omega)) dL_law_174 ?_
      refine lv_aload_n hx hb dL_law_175 rfl (lv_at hl 3 rfl) ?_
      refine lv_iload_n hx hb dL_law_176 rfl (lv_at hl 0 rfl) ?_
      refine lv_iconst (v := 3) hx hb dL_law_177 (by decide) ?_
      refine lv_iadd hx hb dL_law_178 ?_
      refine lv_topi (fun v_109 ev_109 => ?_)
      obtain rfl : v_109 = 3 := ev_109.trans (by decide)
      refine va_sld hx hb hX hbl hbA hS (zz_in (a := (3:Int)) (by decide) (by omega) (by omega)) dL_law_179 ?_
      refine lv_aload_n hx hb dL_law_180 rfl (lv_at hl 3 rfl) ?_
      refine lv_iload_n hx hb dL_law_181 rfl (lv_at hl 0 rfl) ?_
      refine lv_iconst (v := 4) hx hb dL_law_182 (by decide) ?_
      refine lv_iadd hx hb dL_law_183 ?_
      refine lv_topi (fun v_110 ev_110 => ?_)
      obtain rfl : v_110 = 4 := ev_110.trans (by decide)
      refine va_sld hx hb hX hbl hbA hS (zz_in (a := (4:Int)) (by decide) (by omega) (by omega)) dL_law_184 ?_
      have hPc := hP.sub (ws' := [(q_57, .inr (10, [.int 0, .int 1, .int 0, .int (-1), .int 0, .int 0, .int 0, .int 20, .ref m_teamOf_58, .ref m_steady_59, .ref m_full_60, .ref m_climb_61, .ref m_rises_62, .ref m_winds_63, .ref m_primeAt_64, .ref m_tape_65, .int 0, .int 0, .int 0, .ref m_clauses_66, .ref m_letter_67, .ref m_sign_68, .ref m_bar_69, .ref m_pace_70, .ref m_rides_71, .ref m_isOut_72, .ref m_metre_73, .ref m_charge_74, .ref m_held_75, .ref m_seconds_76, .ref m_heldOften_77, .ref m_work_78, .ref m_primeSeconds_79, .int 0, .long 0, .ref m_row_80, .int 0, .ref m_groupSize_81, .ref m_place_82, .ref m_stood_83, .ref m_history_84, .ref m_groupHistory_85, .int 0, .int 0, .int 0, .int 0, .ref m_didRide_86, .ref m_toldRow_87, .ref m_passedBy_88, .ref m_total_89, .ref m_points_90, .ref m_used_91])), (m_teamOf_58, .inl (cI, 20, .inl (fun _ => 0))), (m_steady_59, .inl (cI, 20, .inl (fun _ => 0))), (m_full_60, .inl (cI, 20, .inl (fun _ => 0))), (m_climb_61, .inl (cI, 20, .inl (fun _ => 0)))]) [0, 1, 2, 3, 4] rfl
      have hDc := hD.sub (ws' := [(q_57, .inr (10, [.int 0, .int 1, .int 0, .int (-1), .int 0, .int 0, .int 0, .int 20, .ref m_teamOf_58, .ref m_steady_59, .ref m_full_60, .ref m_climb_61, .ref m_rises_62, .ref m_winds_63, .ref m_primeAt_64, .ref m_tape_65, .int 0, .int 0, .int 0, .ref m_clauses_66, .ref m_letter_67, .ref m_sign_68, .ref m_bar_69, .ref m_pace_70, .ref m_rides_71, .ref m_isOut_72, .ref m_metre_73, .ref m_charge_74, .ref m_held_75, .ref m_seconds_76, .ref m_heldOften_77, .ref m_work_78, .ref m_primeSeconds_79, .int 0, .long 0, .ref m_row_80, .int 0, .ref m_groupSize_81, .ref m_place_82, .ref m_stood_83, .ref m_history_84, .ref m_groupHistory_85, .int 0, .int 0, .int 0, .int 0, .ref m_didRide_86, .ref m_toldRow_87, .ref m_passedBy_88, .ref m_total_89, .ref m_points_90, .ref m_used_91])), (m_teamOf_58, .inl (cI, 20, .inl (fun _ => 0))), (m_steady_59, .inl (cI, 20, .inl (fun _ => 0))), (m_full_60, .inl (cI, 20, .inl (fun _ => 0))), (m_climb_61, .inl (cI, 20, .inl (fun _ => 0)))]) [0, 1, 2, 3, 4] (by decide) rfl
      have hFc := va_free (wc := [(q_57, .inr (10, [.int 0, .int 1, .int 0, .int (-1), .int 0, .int 0, .int 0, .int 20, .ref m_teamOf_58, .ref m_steady_59, .ref m_full_60, .ref m_climb_61, .ref m_rises_62, .ref m_winds_63, .ref m_primeAt_64, .ref m_tape_65, .int 0, .int 0, .int 0, .ref m_clauses_66, .ref m_letter_67, .ref m_sign_68, .ref m_bar_69, .ref m_pace_70, .ref m_rides_71, .ref m_isOut_72, .ref m_metre_73, .ref m_charge_74, .ref m_held_75, .ref m_seconds_76, .ref m_heldOften_77, .ref m_work_78, .ref m_primeSeconds_79, .int 0, .long 0, .ref m_row_80, .int 0, .ref m_groupSize_81, .ref m_place_82, .ref m_stood_83, .ref m_history_84, .ref m_groupHistory_85, .int 0, .int 0, .int 0, .int 0, .ref m_didRide_86, .ref m_toldRow_87, .ref m_passedBy_88, .ref m_total_89, .ref m_points_90, .ref m_used_91])), (m_teamOf_58, .inl (cI, 20, .inl (fun _ => 0))), (m_steady_59, .inl (cI, 20, .inl (fun _ => 0))), (m_full_60, .inl (cI, 20, .inl (fun _ => 0))), (m_climb_61, .inl (cI, 20, .inl (fun _ => 0)))]) hD hS hA [0, 1, 2, 3, 4] rfl
      refine va_calli (va_runV (As := [.int (xs (Int32.toNatClampNeg 1)), .int (xs (Int32.toNatClampNeg 2)), .int (xs (Int32.toNatClampNeg 3)), .int (xs (Int32.toNatClampNeg 4))]) (rest := [.int r_105]) ⟨hx, hb, hml, hown, hts⟩ (c_X10_rider l dC dI cI cZ (H).size q_57 m_teamOf_58 m_steady_59 m_full_60 m_climb_61 m_rises_62 m_winds_63 m_primeAt_64 m_tape_65 m_clauses_66 m_letter_67 m_sign_68 m_bar_69 m_pace_70 m_rides_71 m_isOut_72 m_metre_73 m_charge_74 m_held_75 m_seconds_76 m_heldOften_77 m_work_78 m_primeSeconds_79 m_row_80 m_groupSize_81 m_place_82 m_stood_83 m_history_84 m_groupHistory_85 m_didRide_86 m_toldRow_87 m_passedBy_88 m_total_89 m_points_90 m_used_91 (xs (Int32.toNatClampNeg 1)) ((xs (Int32.toNatClampNeg 1)).toInt) rfl (xs (Int32.toNatClampNeg 2)) ((xs (Int32.toNatClampNeg 2)).toInt) rfl (xs (Int32.toNatClampNeg 3)) ((xs (Int32.toNatClampNeg 3)).toInt) rfl (xs (Int32.toNatClampNeg 4)) ((xs (Int32.toNatClampNeg 4)).toInt) rfl) ⟨callB_of 4 hts (zz_goodL zw_897) rfl rfl rfl hw7 hw13 (by decide +kernel) ⟨Nat.le_of_ble_eq_true rfl, Nat.le_of_ble_eq_true rfl⟩, hw14, hw15⟩ ⟨fun a U g mk q => by obtain ⟨q0, q1, qP, qK, qD⟩ := q; exact ⟨q0, q1, qP, va_K.moved (u := U) (U := U.calling g mk a) (Vm.Alike.refl U.vm) qK, qD⟩, va_recv hK hPc (ci := 10) (q0 := 0) rfl rfl, fun U hU hW => ⟨rfl, by rw [hU], by rw [hU]; exact hPc, va_K.moved hW.alike hK, hDc.weaken (fun _ _ _ _ => trivial)⟩⟩ rfl rfl hl.1 rfl (lv_room (Nat.le_of_ble_eq_true rfl)) dL_law_185 ⟨Nat.le_of_ble_eq_true rfl, Nat.le_of_ble_eq_true rfl⟩) hS (fun q _ h => hFc q h) hFc (fun r_111 u t H1 locs ht hvm hpost hB hz1 hk1 hS => ?_)
      subst hpost
      obtain ⟨hf_112, hP1, hK1, hD1⟩ := hB
      rw [ht] at hP1
      obtain ⟨hP, hD⟩ := va_join (wr := []) (w1 := []) hP hD [0, 1, 2, 3, 4] [] rfl rfl (by decide) (by decide) hk1 hFc hP1 hD1
      generalize H1 = H at hP hS ⊢
      have hP : va_P (dC, dI) vwCl [] H := hP
      have hD : va_D (fun q : Nat => s.heap.size ≤ q) [] := hD
      have hf_112 : ((0 ≤ ((xs (Int32.toNatClampNeg 1)).toInt) ∧ ((xs (Int32.toNatClampNeg 1)).toInt) ≤ 4 ∧ 1 ≤ ((xs (Int32.toNatClampNeg 2)).toInt) ∧ ((xs (Int32.toNatClampNeg 2)).toInt) ≤ 60 ∧ 0 ≤ ((xs (Int32.toNatClampNeg 3)).toInt) ∧ ((xs (Int32.toNatClampNeg 3)).toInt) ≤ 2000 ∧ 0 ≤ ((xs (Int32.toNatClampNeg 4)).toInt) ∧ ((xs (Int32.toNatClampNeg 4)).toInt) ≤ 50) ∧ r_111.toInt = 0) ∨ (¬ (0 ≤ ((xs (Int32.toNatClampNeg 1)).toInt) ∧ ((xs (Int32.toNatClampNeg 1)).toInt) ≤ 4 ∧ 1 ≤ ((xs (Int32.toNatClampNeg 2)).toInt) ∧ ((xs (Int32.toNatClampNeg 2)).toInt) ≤ 60 ∧ 0 ≤ ((xs (Int32.toNatClampNeg 3)).toInt) ∧ ((xs (Int32.toNatClampNeg 3)).toInt) ≤ 2000 ∧ 0 ≤ ((xs (Int32.toNatClampNeg 4)).toInt) ∧ ((xs (Int32.toNatClampNeg 4)).toInt) ≤ 50) ∧ r_111.toInt = -1) := hf_112
      refine lv_icmp_eq (tgt := 931) hx hb dL_law_188 (by decide) (fun c_113 => ?_) (fun c_113 => ?_)
      ·
        have c_113 : (r_105).toInt = (r_111).toInt := zz_eq rfl rfl c_113
        refine lv_iinc (v := 7) (lv' := [(3, .int 7), (2, .ref q_57), (1, .ref q_1), (0, .ref b)]) hx hb dL_law_931 hl (k := 0) rfl (by decide) (by decide) rfl (fun ls hl => ?_)
        refine lv_goto (tgt := 18) hx hb dL_law_934 (by decide) ?_
        refine lv_iload_n hx hb dL_law_18 rfl (lv_at hl 0 rfl) ?_
        refine lv_aload_n hx hb dL_law_19 rfl (lv_at hl 3 rfl) ?_
        refine va_slen hx hb hX hbl hbA hS dL_law_20 ?_
        refine lv_bipush (v := 7) hx hb dL_law_21 (by decide) ?_
        refine lv_isub hx hb dL_law_23 ?_
        refine lv_topi (fun v_114 ev_114 => ?_)
        have hv_114 : v_114.toInt = ((L : Int) - (7:Int)) := by rw [ev_114]; exact zz_subI (nI_toInt (by omega)) (by decide) (by omega) (by omega)
        refine lv_icmp_gt (tgt := 937) hx hb dL_law_24 (by decide) (fun c_115 => ?_) (fun c_115 => ?_)
        ·
          have c_115 : ((L : Int) - (7:Int)) < (7:Int) := zz_lt hv_114 (by decide) c_115
          refine lv_iconst (v := 1) hx hb dL_law_937 (by decide) ?_
          refine va_forget (fun q hq => hS.2.2 q hq) ?_
          refine W.widen (k := 91) (n := 20364) (Nat.le_of_ble_eq_true rfl) (Nat.le_of_ble_eq_true rfl) ?_
          exact lw_ret hx hb hr hlocks dL_law_938
        ·
          have c_115 : ¬ (((L : Int) - (7:Int)) < (7:Int)) := zz_ltn hv_114 (by decide) c_115
          exact absurd c_115 (by omega)
      ·
        have c_113 : ¬ ((r_105).toInt = (r_111).toInt) := zz_eqn rfl rfl c_113
        exact absurd c_113 (by omega)
    ·
      refine lv_tableIn (tgt := 193) (off := 160) hx hb dL_law_33 (by rw [hs_95]; omega) (by rw [hs_95]; omega) (by rw [hs_95, q_96]; rfl) (by decide) ?_
      have hP := hP.sub (ws' := [(q_1, .inr (9, [.ref x_riders_2, .ref x_road_7, .ref x_tape_11, .ref x_book_13, .ref x_reader_19, .ref x_latest_20, .ref x_log_35, .ref x_trial_38, .ref x_stages_53, .int 0, .int 0, .int 0])), (x_road_7, .inr (6, [.int 1, .ref x_ro_rises_8, .ref x_ro_winds_9, .int 0, .ref x_ro_primeMetres_10, .int 0, .int 0])), (x_ro_rises_8, .inl (cI, 30, .inl (fun _ => 0))), (x_ro_winds_9, .inl (cI, 30, .inl (fun _ => 0))), (x_ro_primeMetres_10, .inl (cI, 5, .inl (fun _ => 0))), (q_57, .inr (10, [.int 0, .int 1, .int 0, .int (-1), .int 0, .int 0, .int 0, .int 20, .ref m_teamOf_58, .ref m_steady_59, .ref m_full_60, .ref m_climb_61, .ref m_rises_62, .ref m_winds_63, .ref m_primeAt_64, .ref m_tape_65, .int 0, .int 0, .int 0, .ref m_clauses_66, .ref m_letter_67, .ref m_sign_68, .ref m_bar_69, .ref m_pace_70, .ref m_rides_71, .ref m_isOut_72, .ref m_metre_73, .ref m_charge_74, .ref m_held_75, .ref m_seconds_76, .ref m_heldOften_77, .ref m_work_78, .ref m_primeSeconds_79, .int 0, .long 0, .ref m_row_80, .int 0, .ref m_groupSize_81, .ref m_place_82, .ref m_stood_83, .ref m_history_84, .ref m_groupHistory_85, .int 0, .int 0, .int 0, .int 0, .ref m_didRide_86, .ref m_toldRow_87, .ref m_passedBy_88, .ref m_total_89, .ref m_points_90, .ref m_used_91])), (m_rises_62, .inl (cI, 30, .inl (fun _ => 0))), (m_winds_63, .inl (cI, 30, .inl (fun _ => 0)))]) [0, 6, 7, 8, 9, 56, 61, 62] rfl
      have hD := hD.sub (ws' := [(q_1, .inr (9, [.ref x_riders_2, .ref x_road_7, .ref x_tape_11, .ref x_book_13, .ref x_reader_19, .ref x_latest_20, .ref x_log_35, .ref x_trial_38, .ref x_stages_53, .int 0, .int 0, .int 0])), (x_road_7, .inr (6, [.int 1, .ref x_ro_rises_8, .ref x_ro_winds_9, .int 0, .ref x_ro_primeMetres_10, .int 0, .int 0])), (x_ro_rises_8, .inl (cI, 30, .inl (fun _ => 0))), (x_ro_winds_9, .inl (cI, 30, .inl (fun _ => 0))), (x_ro_primeMetres_10, .inl (cI, 5, .inl (fun _ => 0))), (q_57, .inr (10, [.int 0, .int 1, .int 0, .int (-1), .int 0, .int 0, .int 0, .int 20, .ref m_teamOf_58, .ref m_steady_59, .ref m_full_60, .ref m_climb_61, .ref m_rises_62, .ref m_winds_63, .ref m_primeAt_64, .ref m_tape_65, .int 0, .int 0, .int 0, .ref m_clauses_66, .ref m_letter_67, .ref m_sign_68, .ref m_bar_69, .ref m_pace_70, .ref m_rides_71, .ref m_isOut_72, .ref m_metre_73, .ref m_charge_74, .ref m_held_75, .ref m_seconds_76, .ref m_heldOften_77, .ref m_work_78, .ref m_primeSeconds_79, .int 0, .long 0, .ref m_row_80, .int 0, .ref m_groupSize_81, .ref m_place_82, .ref m_stood_83, .ref m_history_84, .ref m_groupHistory_85, .int 0, .int 0, .int 0, .int 0, .ref m_didRide_86, .ref m_toldRow_87, .ref m_passedBy_88, .ref m_total_89, .ref m_points_90, .ref m_used_91])), (m_rises_62, .inl (cI, 30, .inl (fun _ => 0))), (m_winds_63, .inl (cI, 30, .inl (fun _ => 0)))]) [0, 6, 7, 8, 9, 56, 61, 62] (by decide) rfl
      refine lv_aload_n hx hb dL_law_193 rfl (lv_at hl 2 rfl) ?_
      refine lv_aload_n hx hb dL_law_194 rfl (lv_at hl 3 rfl) ?_
      refine lv_iload_n hx hb dL_law_195 rfl (lv_at hl 0 rfl) ?_
      refine lv_iconst (v := 1) hx hb dL_law_196 (by decide) ?_
      refine lv_iadd hx hb dL_law_197 ?_
      refine lv_topi (fun v_116 ev_116 => ?_)
      obtain rfl : v_116 = 1 := ev_116.trans (by decide)
      refine va_sld hx hb hX hbl hbA hS (zz_in (a := (1:Int)) (by decide) (by omega) (by omega)) dL_law_198 ?_
      have hPc := hP.sub (ws' := [(q_1, .inr (9, [.ref x_riders_2, .ref x_road_7, .ref x_tape_11, .ref x_book_13, .ref x_reader_19, .ref x_latest_20, .ref x_log_35, .ref x_trial_38, .ref x_stages_53, .int 0, .int 0, .int 0])), (x_road_7, .inr (6, [.int 1, .ref x_ro_rises_8, .ref x_ro_winds_9, .int 0, .ref x_ro_primeMetres_10, .int 0, .int 0])), (x_ro_rises_8, .inl (cI, 30, .inl (fun _ => 0))), (x_ro_winds_9, .inl (cI, 30, .inl (fun _ => 0))), (x_ro_primeMetres_10, .inl (cI, 5, .inl (fun _ => 0)))]) [0, 1, 2, 3, 4] rfl
      have hDc := hD.sub (ws' := [(q_1, .inr (9, [.ref x_riders_2, .ref x_road_7, .ref x_tape_11, .ref x_book_13, .ref x_reader_19, .ref x_latest_20, .ref x_log_35, .ref x_trial_38, .ref x_stages_53, .int 0, .int 0, .int 0])), (x_road_7, .inr (6, [.int 1, .ref x_ro_rises_8, .ref x_ro_winds_9, .int 0, .ref x_ro_primeMetres_10, .int 0, .int 0])), (x_ro_rises_8, .inl (cI, 30, .inl (fun _ => 0))), (x_ro_winds_9, .inl (cI, 30, .inl (fun _ => 0))), (x_ro_primeMetres_10, .inl (cI, 5, .inl (fun _ => 0)))]) [0, 1, 2, 3, 4] (by decide) rfl
      have hFc := va_free (wc := [(q_1, .inr (9, [.ref x_riders_2, .ref x_road_7, .ref x_tape_11, .ref x_book_13, .ref x_reader_19, .ref x_latest_20, .ref x_log_35, .ref x_trial_38, .ref x_stages_53, .int 0, .int 0, .int 0])), (x_road_7, .inr (6, [.int 1, .ref x_ro_rises_8, .ref x_ro_winds_9, .int 0, .ref x_ro_primeMetres_10, .int 0, .int 0])), (x_ro_rises_8, .inl (cI, 30, .inl (fun _ => 0))), (x_ro_winds_9, .inl (cI, 30, .inl (fun _ => 0))), (x_ro_primeMetres_10, .inl (cI, 5, .inl (fun _ => 0)))]) hD hS hA [0, 1, 2, 3, 4] rfl
      refine va_calli (va_runV (As := [.int (xs (Int32.toNatClampNeg 1))]) (rest := []) ⟨hx, hb, hml, hown, hts⟩ (c_X9_road l dC dI cI cZ (H).size q_1 x_riders_2 x_road_7 x_tape_11 x_book_13 x_reader_19 x_latest_20 x_log_35 x_trial_38 x_stages_53 x_ro_rises_8 x_ro_winds_9 x_ro_primeMetres_10 (xs (Int32.toNatClampNeg 1)) ((xs (Int32.toNatClampNeg 1)).toInt) rfl) ⟨callB_of 1 hts (zz_goodL zw_385) rfl rfl rfl hw2 hw16 (by decide +kernel) ⟨Nat.le_of_ble_eq_true rfl, Nat.le_of_ble_eq_true rfl⟩, hw17, hw18⟩ ⟨fun a U g mk q => by obtain ⟨q0, q1, qP, qK, qD⟩ := q; exact ⟨q0, q1, qP, va_K.moved (u := U) (U := U.calling g mk a) (Vm.Alike.refl U.vm) qK, qD⟩, va_recv hK hPc (ci := 9) (q0 := 0) rfl rfl, fun U hU hW => ⟨rfl, by rw [hU], by rw [hU]; exact hPc, va_K.moved hW.alike hK, hDc.weaken (fun _ _ _ _ => trivial)⟩⟩ rfl rfl hl.1 rfl (lv_room (Nat.le_of_ble_eq_true rfl)) dL_law_199 ⟨Nat.le_of_ble_eq_true rfl, Nat.le_of_ble_eq_true rfl⟩) hS (fun q _ h => hFc q h) hFc (fun r_117 u t H1 locs ht hvm hpost hB hz1 hk1 hS => ?_)
      subst hpost
      obtain ⟨hf_118, hP1, hK1, hD1⟩ := hB
      rw [ht] at hP1
      obtain ⟨hP, hD⟩ := va_join (wr := [(q_57, .inr (10, [.int 0, .int 1, .int 0, .int (-1), .int 0, .int 0, .int 0, .int 20, .ref m_teamOf_58, .ref m_steady_59, .ref m_full_60, .ref m_climb_61, .ref m_rises_62, .ref m_winds_63, .ref m_primeAt_64, .ref m_tape_65, .int 0, .int 0, .int 0, .ref m_clauses_66, .ref m_letter_67, .ref m_sign_68, .ref m_bar_69, .ref m_pace_70, .ref m_rides_71, .ref m_isOut_72, .ref m_metre_73, .ref m_charge_74, .ref m_held_75, .ref m_seconds_76, .ref m_heldOften_77, .ref m_work_78, .ref m_primeSeconds_79, .int 0, .long 0, .ref m_row_80, .int 0, .ref m_groupSize_81, .ref m_place_82, .ref m_stood_83, .ref m_history_84, .ref m_groupHistory_85, .int 0, .int 0, .int 0, .int 0, .ref m_didRide_86, .ref m_toldRow_87, .ref m_passedBy_88, .ref m_total_89, .ref m_points_90, .ref m_used_91])), (m_rises_62, .inl (cI, 30, .inl (fun _ => 0))), (m_winds_63, .inl (cI, 30, .inl (fun _ => 0)))]) (w1 := []) hP hD [0, 1, 2, 3, 4] [5, 6, 7] rfl rfl (by decide) (by decide) hk1 hFc hP1 hD1
      generalize H1 = H at hP hS ⊢
      have hP : va_P (dC, dI) vwCl [(q_57, .inr (10, [.int 0, .int 1, .int 0, .int (-1), .int 0, .int 0, .int 0, .int 20, .ref m_teamOf_58, .ref m_steady_59, .ref m_full_60, .ref m_climb_61, .ref m_rises_62, .ref m_winds_63, .ref m_primeAt_64, .ref m_tape_65, .int 0, .int 0, .int 0, .ref m_clauses_66, .ref m_letter_67, .ref m_sign_68, .ref m_bar_69, .ref m_pace_70, .ref m_rides_71, .ref m_isOut_72, .ref m_metre_73, .ref m_charge_74, .ref m_held_75, .ref m_seconds_76, .ref m_heldOften_77, .ref m_work_78, .ref m_primeSeconds_79, .int 0, .long 0, .ref m_row_80, .int 0, .ref m_groupSize_81, .ref m_place_82, .ref m_stood_83, .ref m_history_84, .ref m_groupHistory_85, .int 0, .int 0, .int 0, .int 0, .ref m_didRide_86, .ref m_toldRow_87, .ref m_passedBy_88, .ref m_total_89, .ref m_points_90, .ref m_used_91])), (m_rises_62, .inl (cI, 30, .inl (fun _ => 0))), (m_winds_63, .inl (cI, 30, .inl (fun _ => 0)))] H := hP
      have hD : va_D (fun q : Nat => s.heap.size ≤ q) [(q_57, .inr (10, [.int 0, .int 1, .int 0, .int (-1), .int 0, .int 0, .int 0, .int 20, .ref m_teamOf_58, .ref m_steady_59, .ref m_full_60, .ref m_climb_61, .ref m_rises_62, .ref m_winds_63, .ref m_primeAt_64, .ref m_tape_65, .int 0, .int 0, .int 0, .ref m_clauses_66, .ref m_letter_67, .ref m_sign_68, .ref m_bar_69, .ref m_pace_70, .ref m_rides_71, .ref m_isOut_72, .ref m_metre_73, .ref m_charge_74, .ref m_held_75, .ref m_seconds_76, .ref m_heldOften_77, .ref m_work_78, .ref m_primeSeconds_79, .int 0, .long 0, .ref m_row_80, .int 0, .ref m_groupSize_81, .ref m_place_82, .ref m_stood_83, .ref m_history_84, .ref m_groupHistory_85, .int 0, .int 0, .int 0, .int 0, .ref m_didRide_86, .ref m_toldRow_87, .ref m_passedBy_88, .ref m_total_89, .ref m_points_90, .ref m_used_91])), (m_rises_62, .inl (cI, 30, .inl (fun _ => 0))), (m_winds_63, .inl (cI, 30, .inl (fun _ => 0)))] := hD
      have hf_118 : (r_117 = 1 ∧ (1 ≤ ((xs (Int32.toNatClampNeg 1)).toInt) ∧ ((xs (Int32.toNatClampNeg 1)).toInt) ≤ 30)) ∨ (r_117 = 0 ∧ ¬ (1 ≤ ((xs (Int32.toNatClampNeg 1)).toInt) ∧ ((xs (Int32.toNatClampNeg 1)).toInt) ≤ 30)) := hf_118
      rcases hf_118 with ⟨rfl, hf_118⟩ | ⟨rfl, hf_118⟩
      ·
        refine lv_aload_n hx hb dL_law_202 rfl (lv_at hl 1 rfl) ?_
        refine lv_aload_n hx hb dL_law_203 rfl (lv_at hl 3 rfl) ?_
        refine lv_iload_n hx hb dL_law_204 rfl (lv_at hl 0 rfl) ?_
        refine lv_iconst (v := 1) hx hb dL_law_205 (by decide) ?_
        refine lv_iadd hx hb dL_law_206 ?_
        refine lv_topi (fun v_119 ev_119 => ?_)
        obtain rfl : v_119 = 1 := ev_119.trans (by decide)
        refine va_sld hx hb hX hbl hbA hS (zz_in (a := (1:Int)) (by decide) (by omega) (by omega)) dL_law_207 ?_
        have hPc := hP.sub (ws' := [(q_57, .inr (10, [.int 0, .int 1, .int 0, .int (-1), .int 0, .int 0, .int 0, .int 20, .ref m_teamOf_58, .ref m_steady_59, .ref m_full_60, .ref m_climb_61, .ref m_rises_62, .ref m_winds_63, .ref m_primeAt_64, .ref m_tape_65, .int 0, .int 0, .int 0, .ref m_clauses_66, .ref m_letter_67, .ref m_sign_68, .ref m_bar_69, .ref m_pace_70, .ref m_rides_71, .ref m_isOut_72, .ref m_metre_73, .ref m_charge_74, .ref m_held_75, .ref m_seconds_76, .ref m_heldOften_77, .ref m_work_78, .ref m_primeSeconds_79, .int 0, .long 0, .ref m_row_80, .int 0, .ref m_groupSize_81, .ref m_place_82, .ref m_stood_83, .ref m_history_84, .ref m_groupHistory_85, .int 0, .int 0, .int 0, .int 0, .ref m_didRide_86, .ref m_toldRow_87, .ref m_passedBy_88, .ref m_total_89, .ref m_points_90, .ref m_used_91])), (m_rises_62, .inl (cI, 30, .inl (fun _ => 0))), (m_winds_63, .inl (cI, 30, .inl (fun _ => 0)))]) [0, 1, 2] rfl
        have hDc := hD.sub (ws' := [(q_57, .inr (10, [.int 0, .int 1, .int 0, .int (-1), .int 0, .int 0, .int 0, .int 20, .ref m_teamOf_58, .ref m_steady_59, .ref m_full_60, .ref m_climb_61, .ref m_rises_62, .ref m_winds_63, .ref m_primeAt_64, .ref m_tape_65, .int 0, .int 0, .int 0, .ref m_clauses_66, .ref m_letter_67, .ref m_sign_68, .ref m_bar_69, .ref m_pace_70, .ref m_rides_71, .ref m_isOut_72, .ref m_metre_73, .ref m_charge_74, .ref m_held_75, .ref m_seconds_76, .ref m_heldOften_77, .ref m_work_78, .ref m_primeSeconds_79, .int 0, .long 0, .ref m_row_80, .int 0, .ref m_groupSize_81, .ref m_place_82, .ref m_stood_83, .ref m_history_84, .ref m_groupHistory_85, .int 0, .int 0, .int 0, .int 0, .ref m_didRide_86, .ref m_toldRow_87, .ref m_passedBy_88, .ref m_total_89, .ref m_points_90, .ref m_used_91])), (m_rises_62, .inl (cI, 30, .inl (fun _ => 0))), (m_winds_63, .inl (cI, 30, .inl (fun _ => 0)))]) [0, 1, 2] (by decide) rfl
        have hFc := va_free (wc := [(q_57, .inr (10, [.int 0, .int 1, .int 0, .int (-1), .int 0, .int 0, .int 0, .int 20, .ref m_teamOf_58, .ref m_steady_59, .ref m_full_60, .ref m_climb_61, .ref m_rises_62, .ref m_winds_63, .ref m_primeAt_64, .ref m_tape_65, .int 0, .int 0, .int 0, .ref m_clauses_66, .ref m_letter_67, .ref m_sign_68, .ref m_bar_69, .ref m_pace_70, .ref m_rides_71, .ref m_isOut_72, .ref m_metre_73, .ref m_charge_74, .ref m_held_75, .ref m_seconds_76, .ref m_heldOften_77, .ref m_work_78, .ref m_primeSeconds_79, .int 0, .long 0, .ref m_row_80, .int 0, .ref m_groupSize_81, .ref m_place_82, .ref m_stood_83, .ref m_history_84, .ref m_groupHistory_85, .int 0, .int 0, .int 0, .int 0, .ref m_didRide_86, .ref m_toldRow_87, .ref m_passedBy_88, .ref m_total_89, .ref m_points_90, .ref m_used_91])), (m_rises_62, .inl (cI, 30, .inl (fun _ => 0))), (m_winds_63, .inl (cI, 30, .inl (fun _ => 0)))]) hD hS hA [0, 1, 2] rfl
        refine va_calli (va_runV (As := [.int (xs (Int32.toNatClampNeg 1))]) (rest := [.int 1]) ⟨hx, hb, hml, hown, hts⟩ (c_X10_road l dC dI cI cZ (H).size q_57 m_teamOf_58 m_steady_59 m_full_60 m_climb_61 m_rises_62 m_winds_63 m_primeAt_64 m_tape_65 m_clauses_66 m_letter_67 m_sign_68 m_bar_69 m_pace_70 m_rides_71 m_isOut_72 m_metre_73 m_charge_74 m_held_75 m_seconds_76 m_heldOften_77 m_work_78 m_primeSeconds_79 m_row_80 m_groupSize_81 m_place_82 m_stood_83 m_history_84 m_groupHistory_85 m_didRide_86 m_toldRow_87 m_passedBy_88 m_total_89 m_points_90 m_used_91 (xs (Int32.toNatClampNeg 1)) ((xs (Int32.toNatClampNeg 1)).toInt) rfl) ⟨callB_of 1 hts (zz_goodL zw_904) rfl rfl rfl hw7 hw19 (by decide +kernel) ⟨Nat.le_of_ble_eq_true rfl, Nat.le_of_ble_eq_true rfl⟩, hw20, hw21⟩ ⟨fun a U g mk q => by obtain ⟨q0, q1, qP, qK, qD⟩ := q; exact ⟨q0, q1, qP, va_K.moved (u := U) (U := U.calling g mk a) (Vm.Alike.refl U.vm) qK, qD⟩, va_recv hK hPc (ci := 10) (q0 := 0) rfl rfl, fun U hU hW => ⟨rfl, by rw [hU], by rw [hU]; exact hPc, va_K.moved hW.alike hK, hDc.weaken (fun _ _ _ _ => trivial)⟩⟩ rfl rfl hl.1 rfl (lv_room (Nat.le_of_ble_eq_true rfl)) dL_law_208 ⟨Nat.le_of_ble_eq_true rfl, Nat.le_of_ble_eq_true rfl⟩) hS (fun q _ h => hFc q h) hFc (fun r_120 u t H1 locs ht hvm hpost hB hz1 hk1 hS => ?_)
        subst hpost
        obtain ⟨hf_121, hP1, hK1, hD1⟩ := hB
        rw [ht] at hP1
        obtain ⟨hP, hD⟩ := va_join (wr := []) (w1 := []) hP hD [0, 1, 2] [] rfl rfl (by decide) (by decide) hk1 hFc hP1 hD1
        generalize H1 = H at hP hS ⊢
        have hP : va_P (dC, dI) vwCl [] H := hP
        have hD : va_D (fun q : Nat => s.heap.size ≤ q) [] := hD
        have hf_121 : (r_120 = 1 ∧ (1 ≤ ((xs (Int32.toNatClampNeg 1)).toInt) ∧ ((xs (Int32.toNatClampNeg 1)).toInt) ≤ 30)) ∨ (r_120 = 0 ∧ ¬ (1 ≤ ((xs (Int32.toNatClampNeg 1)).toInt) ∧ ((xs (Int32.toNatClampNeg 1)).toInt) ≤ 30)) := hf_121
        rcases hf_121 with ⟨rfl, hf_121⟩ | ⟨rfl, hf_121⟩
        ·
          refine lv_icmp_eq (tgt := 931) hx hb dL_law_211 (by decide) (fun c_122 => ?_) (fun c_122 => ?_)
          ·
            refine lv_iinc (v := 7) (lv' := [(3, .int 7), (2, .ref q_57), (1, .ref q_1), (0, .ref b)]) hx hb dL_law_931 hl (k := 0) rfl (by decide) (by decide) rfl (fun ls hl => ?_)
            refine lv_goto (tgt := 18) hx hb dL_law_934 (by decide) ?_
            refine lv_iload_n hx hb dL_law_18 rfl (lv_at hl 0 rfl) ?_
            refine lv_aload_n hx hb dL_law_19 rfl (lv_at hl 3 rfl) ?_
            refine va_slen hx hb hX hbl hbA hS dL_law_20 ?_
            refine lv_bipush (v := 7) hx hb dL_law_21 (by decide) ?_
            refine lv_isub hx hb dL_law_23 ?_
            refine lv_topi (fun v_123 ev_123 => ?_)
            have hv_123 : v_123.toInt = ((L : Int) - (7:Int)) := by rw [ev_123]; exact zz_subI (nI_toInt (by omega)) (by decide) (by omega) (by omega)
            refine lv_icmp_gt (tgt := 937) hx hb dL_law_24 (by decide) (fun c_124 => ?_) (fun c_124 => ?_)
            ·
              have c_124 : ((L : Int) - (7:Int)) < (7:Int) := zz_lt hv_123 (by decide) c_124
              refine lv_iconst (v := 1) hx hb dL_law_937 (by decide) ?_
              refine va_forget (fun q hq => hS.2.2 q hq) ?_
              refine W.widen (k := 91) (n := 20364) (Nat.le_of_ble_eq_true rfl) (Nat.le_of_ble_eq_true rfl) ?_
              exact lw_ret hx hb hr hlocks dL_law_938
            ·
              have c_124 : ¬ (((L : Int) - (7:Int)) < (7:Int)) := zz_ltn hv_123 (by decide) c_124
              exact absurd c_124 (by omega)
          ·
            exact absurd c_122 (by decide)
        ·
          exfalso
          omega
      ·
        refine lv_aload_n hx hb dL_law_202 rfl (lv_at hl 1 rfl) ?_
        refine lv_aload_n hx hb dL_law_203 rfl (lv_at hl 3 rfl) ?_
        refine lv_iload_n hx hb dL_law_204 rfl (lv_at hl 0 rfl) ?_
        refine lv_iconst (v := 1) hx hb dL_law_205 (by decide) ?_
        refine lv_iadd hx hb dL_law_206 ?_
        refine lv_topi (fun v_126 ev_126 => ?_)
        obtain rfl : v_126 = 1 := ev_126.trans (by decide)
        refine va_sld hx hb hX hbl hbA hS (zz_in (a := (1:Int)) (by decide) (by omega) (by omega)) dL_law_207 ?_
        have hPc := hP.sub (ws' := [(q_57, .inr (10, [.int 0, .int 1, .int 0, .int (-1), .int 0, .int 0, .int 0, .int 20, .ref m_teamOf_58, .ref m_steady_59, .ref m_full_60, .ref m_climb_61, .ref m_rises_62, .ref m_winds_63, .ref m_primeAt_64, .ref m_tape_65, .int 0, .int 0, .int 0, .ref m_clauses_66, .ref m_letter_67, .ref m_sign_68, .ref m_bar_69, .ref m_pace_70, .ref m_rides_71, .ref m_isOut_72, .ref m_metre_73, .ref m_charge_74, .ref m_held_75, .ref m_seconds_76, .ref m_heldOften_77, .ref m_work_78, .ref m_primeSeconds_79, .int 0, .long 0, .ref m_row_80, .int 0, .ref m_groupSize_81, .ref m_place_82, .ref m_stood_83, .ref m_history_84, .ref m_groupHistory_85, .int 0, .int 0, .int 0, .int 0, .ref m_didRide_86, .ref m_toldRow_87, .ref m_passedBy_88, .ref m_total_89, .ref m_points_90, .ref m_used_91])), (m_rises_62, .inl (cI, 30, .inl (fun _ => 0))), (m_winds_63, .inl (cI, 30, .inl (fun _ => 0)))]) [0, 1, 2] rfl
        have hDc := hD.sub (ws' := [(q_57, .inr (10, [.int 0, .int 1, .int 0, .int (-1), .int 0, .int 0, .int 0, .int 20, .ref m_teamOf_58, .ref m_steady_59, .ref m_full_60, .ref m_climb_61, .ref m_rises_62, .ref m_winds_63, .ref m_primeAt_64, .ref m_tape_65, .int 0, .int 0, .int 0, .ref m_clauses_66, .ref m_letter_67, .ref m_sign_68, .ref m_bar_69, .ref m_pace_70, .ref m_rides_71, .ref m_isOut_72, .ref m_metre_73, .ref m_charge_74, .ref m_held_75, .ref m_seconds_76, .ref m_heldOften_77, .ref m_work_78, .ref m_primeSeconds_79, .int 0, .long 0, .ref m_row_80, .int 0, .ref m_groupSize_81, .ref m_place_82, .ref m_stood_83, .ref m_history_84, .ref m_groupHistory_85, .int 0, .int 0, .int 0, .int 0, .ref m_didRide_86, .ref m_toldRow_87, .ref m_passedBy_88, .ref m_total_89, .ref m_points_90, .ref m_used_91])), (m_rises_62, .inl (cI, 30, .inl (fun _ => 0))), (m_winds_63, .inl (cI, 30, .inl (fun _ => 0)))]) [0, 1, 2] (by decide) rfl
        have hFc := va_free (wc := [(q_57, .inr (10, [.int 0, .int 1, .int 0, .int (-1), .int 0, .int 0, .int 0, .int 20, .ref m_teamOf_58, .ref m_steady_59, .ref m_full_60, .ref m_climb_61, .ref m_rises_62, .ref m_winds_63, .ref m_primeAt_64, .ref m_tape_65, .int 0, .int 0, .int 0, .ref m_clauses_66, .ref m_letter_67, .ref m_sign_68, .ref m_bar_69, .ref m_pace_70, .ref m_rides_71, .ref m_isOut_72, .ref m_metre_73, .ref m_charge_74, .ref m_held_75, .ref m_seconds_76, .ref m_heldOften_77, .ref m_work_78, .ref m_primeSeconds_79, .int 0, .long 0, .ref m_row_80, .int 0, .ref m_groupSize_81, .ref m_place_82, .ref m_stood_83, .ref m_history_84, .ref m_groupHistory_85, .int 0, .int 0, .int 0, .int 0, .ref m_didRide_86, .ref m_toldRow_87, .ref m_passedBy_88, .ref m_total_89, .ref m_points_90, .ref m_used_91])), (m_rises_62, .inl (cI, 30, .inl (fun _ => 0))), (m_winds_63, .inl (cI, 30, .inl (fun _ => 0)))]) hD hS hA [0, 1, 2] rfl
        refine va_calli (va_runV (As := [.int (xs (Int32.toNatClampNeg 1))]) (rest := [.int 0]) ⟨hx, hb, hml, hown, hts⟩ (c_X10_road l dC dI cI cZ (H).size q_57 m_teamOf_58 m_steady_59 m_full_60 m_climb_61 m_rises_62 m_winds_63 m_primeAt_64 m_tape_65 m_clauses_66 m_letter_67 m_sign_68 m_bar_69 m_pace_70 m_rides_71 m_isOut_72 m_metre_73 m_charge_74 m_held_75 m_seconds_76 m_heldOften_77 m_work_78 m_primeSeconds_79 m_row_80 m_groupSize_81 m_place_82 m_stood_83 m_history_84 m_groupHistory_85 m_didRide_86 m_toldRow_87 m_passedBy_88 m_total_89 m_points_90 m_used_91 (xs (Int32.toNatClampNeg 1)) ((xs (Int32.toNatClampNeg 1)).toInt) rfl) ⟨callB_of 1 hts (zz_goodL zw_904) rfl rfl rfl hw7 hw19 (by decide +kernel) ⟨Nat.le_of_ble_eq_true rfl, Nat.le_of_ble_eq_true rfl⟩, hw20, hw21⟩ ⟨fun a U g mk q => by obtain ⟨q0, q1, qP, qK, qD⟩ := q; exact ⟨q0, q1, qP, va_K.moved (u := U) (U := U.calling g mk a) (Vm.Alike.refl U.vm) qK, qD⟩, va_recv hK hPc (ci := 10) (q0 := 0) rfl rfl, fun U hU hW => ⟨rfl, by rw [hU], by rw [hU]; exact hPc, va_K.moved hW.alike hK, hDc.weaken (fun _ _ _ _ => trivial)⟩⟩ rfl rfl hl.1 rfl (lv_room (Nat.le_of_ble_eq_true rfl)) dL_law_208 ⟨Nat.le_of_ble_eq_true rfl, Nat.le_of_ble_eq_true rfl⟩) hS (fun q _ h => hFc q h) hFc (fun r_127 u t H1 locs ht hvm hpost hB hz1 hk1 hS => ?_)
        subst hpost
        obtain ⟨hf_128, hP1, hK1, hD1⟩ := hB
        rw [ht] at hP1
        obtain ⟨hP, hD⟩ := va_join (wr := []) (w1 := []) hP hD [0, 1, 2] [] rfl rfl (by decide) (by decide) hk1 hFc hP1 hD1
        generalize H1 = H at hP hS ⊢
        have hP : va_P (dC, dI) vwCl [] H := hP
        have hD : va_D (fun q : Nat => s.heap.size ≤ q) [] := hD
        have hf_128 : (r_127 = 1 ∧ (1 ≤ ((xs (Int32.toNatClampNeg 1)).toInt) ∧ ((xs (Int32.toNatClampNeg 1)).toInt) ≤ 30)) ∨ (r_127 = 0 ∧ ¬ (1 ≤ ((xs (Int32.toNatClampNeg 1)).toInt) ∧ ((xs (Int32.toNatClampNeg 1)).toInt) ≤ 30)) := hf_128
        rcases hf_128 with ⟨rfl, hf_128⟩ | ⟨rfl, hf_128⟩
        ·
          exfalso
          omega
        ·
          refine lv_icmp_eq (tgt := 931) hx hb dL_law_211 (by decide) (fun c_130 => ?_) (fun c_130 => ?_)
          ·
            refine lv_iinc (v := 7) (lv' := [(3, .int 7), (2, .ref q_57), (1, .ref q_1), (0, .ref b)]) hx hb dL_law_931 hl (k := 0) rfl (by decide) (by decide) rfl (fun ls hl => ?_)
            refine lv_goto (tgt := 18) hx hb dL_law_934 (by decide) ?_
            refine lv_iload_n hx hb dL_law_18 rfl (lv_at hl 0 rfl) ?_
            refine lv_aload_n hx hb dL_law_19 rfl (lv_at hl 3 rfl) ?_
            refine va_slen hx hb hX hbl hbA hS dL_law_20 ?_
            refine lv_bipush (v := 7) hx hb dL_law_21 (by decide) ?_
            refine lv_isub hx hb dL_law_23 ?_
            refine lv_topi (fun v_131 ev_131 => ?_)
            have hv_131 : v_131.toInt = ((L : Int) - (7:Int)) := by rw [ev_131]; exact zz_subI (nI_toInt (by omega)) (by decide) (by omega) (by omega)
            refine lv_icmp_gt (tgt := 937) hx hb dL_law_24 (by decide) (fun c_132 => ?_) (fun c_132 => ?_)
            ·
              have c_132 : ((L : Int) - (7:Int)) < (7:Int) := zz_lt hv_131 (by decide) c_132
              refine lv_iconst (v := 1) hx hb dL_law_937 (by decide) ?_
              refine va_forget (fun q hq => hS.2.2 q hq) ?_
              refine W.widen (k := 91) (n := 20364) (Nat.le_of_ble_eq_true rfl) (Nat.le_of_ble_eq_true rfl) ?_
              exact lw_ret hx hb hr hlocks dL_law_938
            ·
              have c_132 : ¬ (((L : Int) - (7:Int)) < (7:Int)) := zz_ltn hv_131 (by decide) c_132
              exact absurd c_132 (by omega)
          ·
            exact absurd c_130 (by decide)
    ·
      refine lv_tableIn (tgt := 216) (off := 183) hx hb dL_law_33 (by rw [hs_95]; omega) (by rw [hs_95]; omega) (by rw [hs_95, q_96]; rfl) (by decide) ?_
      have hP := hP.sub (ws' := [(q_1, .inr (9, [.ref x_riders_2, .ref x_road_7, .ref x_tape_11, .ref x_book_13, .ref x_reader_19, .ref x_latest_20, .ref x_log_35, .ref x_trial_38, .ref x_stages_53, .int 0, .int 0, .int 0])), (x_road_7, .inr (6, [.int 1, .ref x_ro_rises_8, .ref x_ro_winds_9, .int 0, .ref x_ro_primeMetres_10, .int 0, .int 0])), (x_ro_rises_8, .inl (cI, 30, .inl (fun _ => 0))), (x_ro_winds_9, .inl (cI, 30, .inl (fun _ => 0))), (x_ro_primeMetres_10, .inl (cI, 5, .inl (fun _ => 0))), (q_57, .inr (10, [.int 0, .int 1, .int 0, .int (-1), .int 0, .int 0, .int 0, .int 20, .ref m_teamOf_58, .ref m_steady_59, .ref m_full_60, .ref m_climb_61, .ref m_rises_62, .ref m_winds_63, .ref m_primeAt_64, .ref m_tape_65, .int 0, .int 0, .int 0, .ref m_clauses_66, .ref m_letter_67, .ref m_sign_68, .ref m_bar_69, .ref m_pace_70, .ref m_rides_71, .ref m_isOut_72, .ref m_metre_73, .ref m_charge_74, .ref m_held_75, .ref m_seconds_76, .ref m_heldOften_77, .ref m_work_78, .ref m_primeSeconds_79, .int 0, .long 0, .ref m_row_80, .int 0, .ref m_groupSize_81, .ref m_place_82, .ref m_stood_83, .ref m_history_84, .ref m_groupHistory_85, .int 0, .int 0, .int 0, .int 0, .ref m_didRide_86, .ref m_toldRow_87, .ref m_passedBy_88, .ref m_total_89, .ref m_points_90, .ref m_used_91])), (m_rises_62, .inl (cI, 30, .inl (fun _ => 0))), (m_winds_63, .inl (cI, 30, .inl (fun _ => 0)))]) [0, 6, 7, 8, 9, 56, 61, 62] rfl
      have hD := hD.sub (ws' := [(q_1, .inr (9, [.ref x_riders_2, .ref x_road_7, .ref x_tape_11, .ref x_book_13, .ref x_reader_19, .ref x_latest_20, .ref x_log_35, .ref x_trial_38, .ref x_stages_53, .int 0, .int 0, .int 0])), (x_road_7, .inr (6, [.int 1, .ref x_ro_rises_8, .ref x_ro_winds_9, .int 0, .ref x_ro_primeMetres_10, .int 0, .int 0])), (x_ro_rises_8, .inl (cI, 30, .inl (fun _ => 0))), (x_ro_winds_9, .inl (cI, 30, .inl (fun _ => 0))), (x_ro_primeMetres_10, .inl (cI, 5, .inl (fun _ => 0))), (q_57, .inr (10, [.int 0, .int 1, .int 0, .int (-1), .int 0, .int 0, .int 0, .int 20, .ref m_teamOf_58, .ref m_steady_59, .ref m_full_60, .ref m_climb_61, .ref m_rises_62, .ref m_winds_63, .ref m_primeAt_64, .ref m_tape_65, .int 0, .int 0, .int 0, .ref m_clauses_66, .ref m_letter_67, .ref m_sign_68, .ref m_bar_69, .ref m_pace_70, .ref m_rides_71, .ref m_isOut_72, .ref m_metre_73, .ref m_charge_74, .ref m_held_75, .ref m_seconds_76, .ref m_heldOften_77, .ref m_work_78, .ref m_primeSeconds_79, .int 0, .long 0, .ref m_row_80, .int 0, .ref m_groupSize_81, .ref m_place_82, .ref m_stood_83, .ref m_history_84, .ref m_groupHistory_85, .int 0, .int 0, .int 0, .int 0, .ref m_didRide_86, .ref m_toldRow_87, .ref m_passedBy_88, .ref m_total_89, .ref m_points_90, .ref m_used_91])), (m_rises_62, .inl (cI, 30, .inl (fun _ => 0))), (m_winds_63, .inl (cI, 30, .inl (fun _ => 0)))]) [0, 6, 7, 8, 9, 56, 61, 62] (by decide) rfl
      refine lv_aload_n hx hb dL_law_216 rfl (lv_at hl 2 rfl) ?_
      refine lv_aload_n hx hb dL_law_217 rfl (lv_at hl 3 rfl) ?_
      refine lv_iload_n hx hb dL_law_218 rfl (lv_at hl 0 rfl) ?_
      refine lv_iconst (v := 1) hx hb dL_law_219 (by decide) ?_
      refine lv_iadd hx hb dL_law_220 ?_
      refine lv_topi (fun v_133 ev_133 => ?_)
      obtain rfl : v_133 = 1 := ev_133.trans (by decide)
      refine va_sld hx hb hX hbl hbA hS (zz_in (a := (1:Int)) (by decide) (by omega) (by omega)) dL_law_221 ?_
      refine lv_aload_n hx hb dL_law_222 rfl (lv_at hl 3 rfl) ?_
      refine lv_iload_n hx hb dL_law_223 rfl (lv_at hl 0 rfl) ?_
      refine lv_iconst (v := 2) hx hb dL_law_224 (by decide) ?_
      refine lv_iadd hx hb dL_law_225 ?_
      refine lv_topi (fun v_134 ev_134 => ?_)
      obtain rfl : v_134 = 2 := ev_134.trans (by decide)
      refine va_sld hx hb hX hbl hbA hS (zz_in (a := (2:Int)) (by decide) (by omega) (by omega)) dL_law_226 ?_
      refine lv_aload_n hx hb dL_law_227 rfl (lv_at hl 3 rfl) ?_
      refine lv_iload_n hx hb dL_law_228 rfl (lv_at hl 0 rfl) ?_
      refine lv_iconst (v := 3) hx hb dL_law_229 (by decide) ?_
      refine lv_iadd hx hb dL_law_230 ?_
      refine lv_topi (fun v_135 ev_135 => ?_)
      obtain rfl : v_135 = 3 := ev_135.trans (by decide)
      refine va_sld hx hb hX hbl hbA hS (zz_in (a := (3:Int)) (by decide) (by omega) (by omega)) dL_law_231 ?_
      have hPc := hP.sub (ws' := [(q_1, .inr (9, [.ref x_riders_2, .ref x_road_7, .ref x_tape_11, .ref x_book_13, .ref x_reader_19, .ref x_latest_20, .ref x_log_35, .ref x_trial_38, .ref x_stages_53, .int 0, .int 0, .int 0])), (x_road_7, .inr (6, [.int 1, .ref x_ro_rises_8, .ref x_ro_winds_9, .int 0, .ref x_ro_primeMetres_10, .int 0, .int 0])), (x_ro_rises_8, .inl (cI, 30, .inl (fun _ => 0))), (x_ro_winds_9, .inl (cI, 30, .inl (fun _ => 0))), (x_ro_primeMetres_10, .inl (cI, 5, .inl (fun _ => 0)))]) [0, 1, 2, 3, 4] rfl
      have hDc := hD.sub (ws' := [(q_1, .inr (9, [.ref x_riders_2, .ref x_road_7, .ref x_tape_11, .ref x_book_13, .ref x_reader_19, .ref x_latest_20, .ref x_log_35, .ref x_trial_38, .ref x_stages_53, .int 0, .int 0, .int 0])), (x_road_7, .inr (6, [.int 1, .ref x_ro_rises_8, .ref x_ro_winds_9, .int 0, .ref x_ro_primeMetres_10, .int 0, .int 0])), (x_ro_rises_8, .inl (cI, 30, .inl (fun _ => 0))), (x_ro_winds_9, .inl (cI, 30, .inl (fun _ => 0))), (x_ro_primeMetres_10, .inl (cI, 5, .inl (fun _ => 0)))]) [0, 1, 2, 3, 4] (by decide) rfl
      have hFc := va_free (wc := [(q_1, .inr (9, [.ref x_riders_2, .ref x_road_7, .ref x_tape_11, .ref x_book_13, .ref x_reader_19, .ref x_latest_20, .ref x_log_35, .ref x_trial_38, .ref x_stages_53, .int 0, .int 0, .int 0])), (x_road_7, .inr (6, [.int 1, .ref x_ro_rises_8, .ref x_ro_winds_9, .int 0, .ref x_ro_primeMetres_10, .int 0, .int 0])), (x_ro_rises_8, .inl (cI, 30, .inl (fun _ => 0))), (x_ro_winds_9, .inl (cI, 30, .inl (fun _ => 0))), (x_ro_primeMetres_10, .inl (cI, 5, .inl (fun _ => 0)))]) hD hS hA [0, 1, 2, 3, 4] rfl
      refine va_calli (va_runV (As := [.int (xs (Int32.toNatClampNeg 1)), .int (xs (Int32.toNatClampNeg 2)), .int (xs (Int32.toNatClampNeg 3))]) (rest := []) ⟨hx, hb, hml, hown, hts⟩ (c_X9_rise l dC dI cI cZ (H).size q_1 x_riders_2 x_road_7 x_tape_11 x_book_13 x_reader_19 x_latest_20 x_log_35 x_trial_38 x_stages_53 x_ro_rises_8 x_ro_winds_9 x_ro_primeMetres_10 (xs (Int32.toNatClampNeg 1)) ((xs (Int32.toNatClampNeg 1)).toInt) rfl (xs (Int32.toNatClampNeg 2)) ((xs (Int32.toNatClampNeg 2)).toInt) rfl (xs (Int32.toNatClampNeg 3)) ((xs (Int32.toNatClampNeg 3)).toInt) rfl) ⟨callB_of 3 hts (zz_goodL zw_393) rfl rfl rfl hw2 hw22 (by decide +kernel) ⟨Nat.le_of_ble_eq_true rfl, Nat.le_of_ble_eq_true rfl⟩, hw23, hw24⟩ ⟨fun a U g mk q => by obtain ⟨q0, q1, qP, qK, qD⟩ := q; exact ⟨q0, q1, qP, va_K.moved (u := U) (U := U.calling g mk a) (Vm.Alike.refl U.vm) qK, qD⟩, va_recv hK hPc (ci := 9) (q0 := 0) rfl rfl, fun U hU hW => ⟨rfl, by rw [hU], by rw [hU]; exact hPc, va_K.moved hW.alike hK, hDc.weaken (fun _ _ _ _ => trivial)⟩⟩ rfl rfl hl.1 rfl (lv_room (Nat.le_of_ble_eq_true rfl)) dL_law_232 ⟨Nat.le_of_ble_eq_true rfl, Nat.le_of_ble_eq_true rfl⟩) hS (fun q _ h => hFc q h) hFc (fun r_136 u t H1 locs ht hvm hpost hB hz1 hk1 hS => ?_)
      subst hpost
      obtain ⟨hf_137, hP1, hK1, hD1⟩ := hB
      rw [ht] at hP1
      obtain ⟨hP, hD⟩ := va_join (wr := [(q_57, .inr (10, [.int 0, .int 1, .int 0, .int (-1), .int 0, .int 0, .int 0, .int 20, .ref m_teamOf_58, .ref m_steady_59, .ref m_full_60, .ref m_climb_61, .ref m_rises_62, .ref m_winds_63, .ref m_primeAt_64, .ref m_tape_65, .int 0, .int 0, .int 0, .ref m_clauses_66, .ref m_letter_67, .ref m_sign_68, .ref m_bar_69, .ref m_pace_70, .ref m_rides_71, .ref m_isOut_72, .ref m_metre_73, .ref m_charge_74, .ref m_held_75, .ref m_seconds_76, .ref m_heldOften_77, .ref m_work_78, .ref m_primeSeconds_79, .int 0, .long 0, .ref m_row_80, .int 0, .ref m_groupSize_81, .ref m_place_82, .ref m_stood_83, .ref m_history_84, .ref m_groupHistory_85, .int 0, .int 0, .int 0, .int 0, .ref m_didRide_86, .ref m_toldRow_87, .ref m_passedBy_88, .ref m_total_89, .ref m_points_90, .ref m_used_91])), (m_rises_62, .inl (cI, 30, .inl (fun _ => 0))), (m_winds_63, .inl (cI, 30, .inl (fun _ => 0)))]) (w1 := []) hP hD [0, 1, 2, 3, 4] [5, 6, 7] rfl rfl (by decide) (by decide) hk1 hFc hP1 hD1
      generalize H1 = H at hP hS ⊢
      have hP : va_P (dC, dI) vwCl [(q_57, .inr (10, [.int 0, .int 1, .int 0, .int (-1), .int 0, .int 0, .int 0, .int 20, .ref m_teamOf_58, .ref m_steady_59, .ref m_full_60, .ref m_climb_61, .ref m_rises_62, .ref m_winds_63, .ref m_primeAt_64, .ref m_tape_65, .int 0, .int 0, .int 0, .ref m_clauses_66, .ref m_letter_67, .ref m_sign_68, .ref m_bar_69, .ref m_pace_70, .ref m_rides_71, .ref m_isOut_72, .ref m_metre_73, .ref m_charge_74, .ref m_held_75, .ref m_seconds_76, .ref m_heldOften_77, .ref m_work_78, .ref m_primeSeconds_79, .int 0, .long 0, .ref m_row_80, .int 0, .ref m_groupSize_81, .ref m_place_82, .ref m_stood_83, .ref m_history_84, .ref m_groupHistory_85, .int 0, .int 0, .int 0, .int 0, .ref m_didRide_86, .ref m_toldRow_87, .ref m_passedBy_88, .ref m_total_89, .ref m_points_90, .ref m_used_91])), (m_rises_62, .inl (cI, 30, .inl (fun _ => 0))), (m_winds_63, .inl (cI, 30, .inl (fun _ => 0)))] H := hP
      have hD : va_D (fun q : Nat => s.heap.size ≤ q) [(q_57, .inr (10, [.int 0, .int 1, .int 0, .int (-1), .int 0, .int 0, .int 0, .int 20, .ref m_teamOf_58, .ref m_steady_59, .ref m_full_60, .ref m_climb_61, .ref m_rises_62, .ref m_winds_63, .ref m_primeAt_64, .ref m_tape_65, .int 0, .int 0, .int 0, .ref m_clauses_66, .ref m_letter_67, .ref m_sign_68, .ref m_bar_69, .ref m_pace_70, .ref m_rides_71, .ref m_isOut_72, .ref m_metre_73, .ref m_charge_74, .ref m_held_75, .ref m_seconds_76, .ref m_heldOften_77, .ref m_work_78, .ref m_primeSeconds_79, .int 0, .long 0, .ref m_row_80, .int 0, .ref m_groupSize_81, .ref m_place_82, .ref m_stood_83, .ref m_history_84, .ref m_groupHistory_85, .int 0, .int 0, .int 0, .int 0, .ref m_didRide_86, .ref m_toldRow_87, .ref m_passedBy_88, .ref m_total_89, .ref m_points_90, .ref m_used_91])), (m_rises_62, .inl (cI, 30, .inl (fun _ => 0))), (m_winds_63, .inl (cI, 30, .inl (fun _ => 0)))] := hD
      have hf_137 : (r_136 = 1 ∧ (((xs (Int32.toNatClampNeg 1)).toInt) = 0 ∧ -5 ≤ ((xs (Int32.toNatClampNeg 2)).toInt) ∧ ((xs (Int32.toNatClampNeg 2)).toInt) ≤ 10 ∧ -3 ≤ ((xs (Int32.toNatClampNeg 3)).toInt) ∧ ((xs (Int32.toNatClampNeg 3)).toInt) ≤ 9)) ∨ (r_136 = 0 ∧ ¬ (((xs (Int32.toNatClampNeg 1)).toInt) = 0 ∧ -5 ≤ ((xs (Int32.toNatClampNeg 2)).toInt) ∧ ((xs (Int32.toNatClampNeg 2)).toInt) ≤ 10 ∧ -3 ≤ ((xs (Int32.toNatClampNeg 3)).toInt) ∧ ((xs (Int32.toNatClampNeg 3)).toInt) ≤ 9)) := hf_137
      rcases hf_137 with ⟨rfl, hf_137⟩ | ⟨rfl, hf_137⟩
      ·
        refine lv_aload_n hx hb dL_law_235 rfl (lv_at hl 1 rfl) ?_
        refine lv_aload_n hx hb dL_law_236 rfl (lv_at hl 3 rfl) ?_
        refine lv_iload_n hx hb dL_law_237 rfl (lv_at hl 0 rfl) ?_
        refine lv_iconst (v := 1) hx hb dL_law_238 (by decide) ?_
        refine lv_iadd hx hb dL_law_239 ?_
        refine lv_topi (fun v_138 ev_138 => ?_)
        obtain rfl : v_138 = 1 := ev_138.trans (by decide)
        refine va_sld hx hb hX hbl hbA hS (zz_in (a := (1:Int)) (by decide) (by omega) (by omega)) dL_law_240 ?_
        refine lv_aload_n hx hb dL_law_241 rfl (lv_at hl 3 rfl) ?_
        refine lv_iload_n hx hb dL_law_242 rfl (lv_at hl 0 rfl) ?_
        refine lv_iconst (v := 2) hx hb dL_law_243 (by decide) ?_
        refine lv_iadd hx hb dL_law_244 ?_
        refine lv_topi (fun v_139 ev_139 => ?_)
        obtain rfl : v_139 = 2 := ev_139.trans (by decide)
        refine va_sld hx hb hX hbl hbA hS (zz_in (a := (2:Int)) (by decide) (by omega) (by omega)) dL_law_245 ?_
        refine lv_aload_n hx hb dL_law_246 rfl (lv_at hl 3 rfl) ?_
        refine lv_iload_n hx hb dL_law_247 rfl (lv_at hl 0 rfl) ?_
        refine lv_iconst (v := 3) hx hb dL_law_248 (by decide) ?_
        refine lv_iadd hx hb dL_law_249 ?_
        refine lv_topi (fun v_140 ev_140 => ?_)
        obtain rfl : v_140 = 3 := ev_140.trans (by decide)
        refine va_sld hx hb hX hbl hbA hS (zz_in (a := (3:Int)) (by decide) (by omega) (by omega)) dL_law_250 ?_
        have hPc := hP.sub (ws' := [(q_57, .inr (10, [.int 0, .int 1, .int 0, .int (-1), .int 0, .int 0, .int 0, .int 20, .ref m_teamOf_58, .ref m_steady_59, .ref m_full_60, .ref m_climb_61, .ref m_rises_62, .ref m_winds_63, .ref m_primeAt_64, .ref m_tape_65, .int 0, .int 0, .int 0, .ref m_clauses_66, .ref m_letter_67, .ref m_sign_68, .ref m_bar_69, .ref m_pace_70, .ref m_rides_71, .ref m_isOut_72, .ref m_metre_73, .ref m_charge_74, .ref m_held_75, .ref m_seconds_76, .ref m_heldOften_77, .ref m_work_78, .ref m_primeSeconds_79, .int 0, .long 0, .ref m_row_80, .int 0, .ref m_groupSize_81, .ref m_place_82, .ref m_stood_83, .ref m_history_84, .ref m_groupHistory_85, .int 0, .int 0, .int 0, .int 0, .ref m_didRide_86, .ref m_toldRow_87, .ref m_passedBy_88, .ref m_total_89, .ref m_points_90, .ref m_used_91])), (m_rises_62, .inl (cI, 30, .inl (fun _ => 0))), (m_winds_63, .inl (cI, 30, .inl (fun _ => 0)))]) [0, 1, 2] rfl
        have hDc := hD.sub (ws' := [(q_57, .inr (10, [.int 0, .int 1, .int 0, .int (-1), .int 0, .int 0, .int 0, .int 20, .ref m_teamOf_58, .ref m_steady_59, .ref m_full_60, .ref m_climb_61, .ref m_rises_62, .ref m_winds_63, .ref m_primeAt_64, .ref m_tape_65, .int 0, .int 0, .int 0, .ref m_clauses_66, .ref m_letter_67, .ref m_sign_68, .ref m_bar_69, .ref m_pace_70, .ref m_rides_71, .ref m_isOut_72, .ref m_metre_73, .ref m_charge_74, .ref m_held_75, .ref m_seconds_76, .ref m_heldOften_77, .ref m_work_78, .ref m_primeSeconds_79, .int 0, .long 0, .ref m_row_80, .int 0, .ref m_groupSize_81, .ref m_place_82, .ref m_stood_83, .ref m_history_84, .ref m_groupHistory_85, .int 0, .int 0, .int 0, .int 0, .ref m_didRide_86, .ref m_toldRow_87, .ref m_passedBy_88, .ref m_total_89, .ref m_points_90, .ref m_used_91])), (m_rises_62, .inl (cI, 30, .inl (fun _ => 0))), (m_winds_63, .inl (cI, 30, .inl (fun _ => 0)))]) [0, 1, 2] (by decide) rfl
        have hFc := va_free (wc := [(q_57, .inr (10, [.int 0, .int 1, .int 0, .int (-1), .int 0, .int 0, .int 0, .int 20, .ref m_teamOf_58, .ref m_steady_59, .ref m_full_60, .ref m_climb_61, .ref m_rises_62, .ref m_winds_63, .ref m_primeAt_64, .ref m_tape_65, .int 0, .int 0, .int 0, .ref m_clauses_66, .ref m_letter_67, .ref m_sign_68, .ref m_bar_69, .ref m_pace_70, .ref m_rides_71, .ref m_isOut_72, .ref m_metre_73, .ref m_charge_74, .ref m_held_75, .ref m_seconds_76, .ref m_heldOften_77, .ref m_work_78, .ref m_primeSeconds_79, .int 0, .long 0, .ref m_row_80, .int 0, .ref m_groupSize_81, .ref m_place_82, .ref m_stood_83, .ref m_history_84, .ref m_groupHistory_85, .int 0, .int 0, .int 0, .int 0, .ref m_didRide_86, .ref m_toldRow_87, .ref m_passedBy_88, .ref m_total_89, .ref m_points_90, .ref m_used_91])), (m_rises_62, .inl (cI, 30, .inl (fun _ => 0))), (m_winds_63, .inl (cI, 30, .inl (fun _ => 0)))]) hD hS hA [0, 1, 2] rfl
        refine va_calli (va_runV (As := [.int (xs (Int32.toNatClampNeg 1)), .int (xs (Int32.toNatClampNeg 2)), .int (xs (Int32.toNatClampNeg 3))]) (rest := [.int 1]) ⟨hx, hb, hml, hown, hts⟩ (c_X10_rise l dC dI cI cZ (H).size q_57 m_teamOf_58 m_steady_59 m_full_60 m_climb_61 m_rises_62 m_winds_63 m_primeAt_64 m_tape_65 m_clauses_66 m_letter_67 m_sign_68 m_bar_69 m_pace_70 m_rides_71 m_isOut_72 m_metre_73 m_charge_74 m_held_75 m_seconds_76 m_heldOften_77 m_work_78 m_primeSeconds_79 m_row_80 m_groupSize_81 m_place_82 m_stood_83 m_history_84 m_groupHistory_85 m_didRide_86 m_toldRow_87 m_passedBy_88 m_total_89 m_points_90 m_used_91 (xs (Int32.toNatClampNeg 1)) ((xs (Int32.toNatClampNeg 1)).toInt) rfl (xs (Int32.toNatClampNeg 2)) ((xs (Int32.toNatClampNeg 2)).toInt) rfl (xs (Int32.toNatClampNeg 3)) ((xs (Int32.toNatClampNeg 3)).toInt) rfl) ⟨callB_of 3 hts (zz_goodL zw_908) rfl rfl rfl hw7 hw25 (by decide +kernel) ⟨Nat.le_of_ble_eq_true rfl, Nat.le_of_ble_eq_true rfl⟩, hw26, hw27⟩ ⟨fun a U g mk q => by obtain ⟨q0, q1, qP, qK, qD⟩ := q; exact ⟨q0, q1, qP, va_K.moved (u := U) (U := U.calling g mk a) (Vm.Alike.refl U.vm) qK, qD⟩, va_recv hK hPc (ci := 10) (q0 := 0) rfl rfl, fun U hU hW => ⟨rfl, by rw [hU], by rw [hU]; exact hPc, va_K.moved hW.alike hK, hDc.weaken (fun _ _ _ _ => trivial)⟩⟩ rfl rfl hl.1 rfl (lv_room (Nat.le_of_ble_eq_true rfl)) dL_law_251 ⟨Nat.le_of_ble_eq_true rfl, Nat.le_of_ble_eq_true rfl⟩) hS (fun q _ h => hFc q h) hFc (fun r_141 u t H1 locs ht hvm hpost hB hz1 hk1 hS => ?_)
        subst hpost
        obtain ⟨hf_142, hP1, hK1, hD1⟩ := hB
        rw [ht] at hP1
        obtain ⟨hP, hD⟩ := va_join (wr := []) (w1 := []) hP hD [0, 1, 2] [] rfl rfl (by decide) (by decide) hk1 hFc hP1 hD1
        generalize H1 = H at hP hS ⊢
        have hP : va_P (dC, dI) vwCl [] H := hP
        have hD : va_D (fun q : Nat => s.heap.size ≤ q) [] := hD
        have hf_142 : (r_141 = 1 ∧ (((xs (Int32.toNatClampNeg 1)).toInt) = 0 ∧ -5 ≤ ((xs (Int32.toNatClampNeg 2)).toInt) ∧ ((xs (Int32.toNatClampNeg 2)).toInt) ≤ 10 ∧ -3 ≤ ((xs (Int32.toNatClampNeg 3)).toInt) ∧ ((xs (Int32.toNatClampNeg 3)).toInt) ≤ 9)) ∨ (r_141 = 0 ∧ ¬ (((xs (Int32.toNatClampNeg 1)).toInt) = 0 ∧ -5 ≤ ((xs (Int32.toNatClampNeg 2)).toInt) ∧ ((xs (Int32.toNatClampNeg 2)).toInt) ≤ 10 ∧ -3 ≤ ((xs (Int32.toNatClampNeg 3)).toInt) ∧ ((xs (Int32.toNatClampNeg 3)).toInt) ≤ 9)) := hf_142
        rcases hf_142 with ⟨rfl, hf_142⟩ | ⟨rfl, hf_142⟩
        ·
          refine lv_icmp_eq (tgt := 931) hx hb dL_law_254 (by decide) (fun c_143 => ?_) (fun c_143 => ?_)
          ·
            refine lv_iinc (v := 7) (lv' := [(3, .int 7), (2, .ref q_57), (1, .ref q_1), (0, .ref b)]) hx hb dL_law_931 hl (k := 0) rfl (by decide) (by decide) rfl (fun ls hl => ?_)
            refine lv_goto (tgt := 18) hx hb dL_law_934 (by decide) ?_
            refine lv_iload_n hx hb dL_law_18 rfl (lv_at hl 0 rfl) ?_
            refine lv_aload_n hx hb dL_law_19 rfl (lv_at hl 3 rfl) ?_
            refine va_slen hx hb hX hbl hbA hS dL_law_20 ?_
            refine lv_bipush (v := 7) hx hb dL_law_21 (by decide) ?_
            refine lv_isub hx hb dL_law_23 ?_
            refine lv_topi (fun v_144 ev_144 => ?_)
            have hv_144 : v_144.toInt = ((L : Int) - (7:Int)) := by rw [ev_144]; exact zz_subI (nI_toInt (by omega)) (by decide) (by omega) (by omega)
            refine lv_icmp_gt (tgt := 937) hx hb dL_law_24 (by decide) (fun c_145 => ?_) (fun c_145 => ?_)
            ·
              have c_145 : ((L : Int) - (7:Int)) < (7:Int) := zz_lt hv_144 (by decide) c_145
              refine lv_iconst (v := 1) hx hb dL_law_937 (by decide) ?_
              refine va_forget (fun q hq => hS.2.2 q hq) ?_
              refine W.widen (k := 91) (n := 20364) (Nat.le_of_ble_eq_true rfl) (Nat.le_of_ble_eq_true rfl) ?_
              exact lw_ret hx hb hr hlocks dL_law_938
            ·
              have c_145 : ¬ (((L : Int) - (7:Int)) < (7:Int)) := zz_ltn hv_144 (by decide) c_145
              exact absurd c_145 (by omega)
          ·
            exact absurd c_143 (by decide)
        ·
          exfalso
          omega
      ·
        refine lv_aload_n hx hb dL_law_235 rfl (lv_at hl 1 rfl) ?_
        refine lv_aload_n hx hb dL_law_236 rfl (lv_at hl 3 rfl) ?_
        refine lv_iload_n hx hb dL_law_237 rfl (lv_at hl 0 rfl) ?_
        refine lv_iconst (v := 1) hx hb dL_law_238 (by decide) ?_
        refine lv_iadd hx hb dL_law_239 ?_
        refine lv_topi (fun v_147 ev_147 => ?_)
        obtain rfl : v_147 = 1 := ev_147.trans (by decide)
        refine va_sld hx hb hX hbl hbA hS (zz_in (a := (1:Int)) (by decide) (by omega) (by omega)) dL_law_240 ?_
        refine lv_aload_n hx hb dL_law_241 rfl (lv_at hl 3 rfl) ?_
        refine lv_iload_n hx hb dL_law_242 rfl (lv_at hl 0 rfl) ?_
        refine lv_iconst (v := 2) hx hb dL_law_243 (by decide) ?_
        refine lv_iadd hx hb dL_law_244 ?_
        refine lv_topi (fun v_148 ev_148 => ?_)
        obtain rfl : v_148 = 2 := ev_148.trans (by decide)
        refine va_sld hx hb hX hbl hbA hS (zz_in (a := (2:Int)) (by decide) (by omega) (by omega)) dL_law_245 ?_
        refine lv_aload_n hx hb dL_law_246 rfl (lv_at hl 3 rfl) ?_
        refine lv_iload_n hx hb dL_law_247 rfl (lv_at hl 0 rfl) ?_
        refine lv_iconst (v := 3) hx hb dL_law_248 (by decide) ?_
        refine lv_iadd hx hb dL_law_249 ?_
        refine lv_topi (fun v_149 ev_149 => ?_)
        obtain rfl : v_149 = 3 := ev_149.trans (by decide)
        refine va_sld hx hb hX hbl hbA hS (zz_in (a := (3:Int)) (by decide) (by omega) (by omega)) dL_law_250 ?_
        have hPc := hP.sub (ws' := [(q_57, .inr (10, [.int 0, .int 1, .int 0, .int (-1), .int 0, .int 0, .int 0, .int 20, .ref m_teamOf_58, .ref m_steady_59, .ref m_full_60, .ref m_climb_61, .ref m_rises_62, .ref m_winds_63, .ref m_primeAt_64, .ref m_tape_65, .int 0, .int 0, .int 0, .ref m_clauses_66, .ref m_letter_67, .ref m_sign_68, .ref m_bar_69, .ref m_pace_70, .ref m_rides_71, .ref m_isOut_72, .ref m_metre_73, .ref m_charge_74, .ref m_held_75, .ref m_seconds_76, .ref m_heldOften_77, .ref m_work_78, .ref m_primeSeconds_79, .int 0, .long 0, .ref m_row_80, .int 0, .ref m_groupSize_81, .ref m_place_82, .ref m_stood_83, .ref m_history_84, .ref m_groupHistory_85, .int 0, .int 0, .int 0, .int 0, .ref m_didRide_86, .ref m_toldRow_87, .ref m_passedBy_88, .ref m_total_89, .ref m_points_90, .ref m_used_91])), (m_rises_62, .inl (cI, 30, .inl (fun _ => 0))), (m_winds_63, .inl (cI, 30, .inl (fun _ => 0)))]) [0, 1, 2] rfl
        have hDc := hD.sub (ws' := [(q_57, .inr (10, [.int 0, .int 1, .int 0, .int (-1), .int 0, .int 0, .int 0, .int 20, .ref m_teamOf_58, .ref m_steady_59, .ref m_full_60, .ref m_climb_61, .ref m_rises_62, .ref m_winds_63, .ref m_primeAt_64, .ref m_tape_65, .int 0, .int 0, .int 0, .ref m_clauses_66, .ref m_letter_67, .ref m_sign_68, .ref m_bar_69, .ref m_pace_70, .ref m_rides_71, .ref m_isOut_72, .ref m_metre_73, .ref m_charge_74, .ref m_held_75, .ref m_seconds_76, .ref m_heldOften_77, .ref m_work_78, .ref m_primeSeconds_79, .int 0, .long 0, .ref m_row_80, .int 0, .ref m_groupSize_81, .ref m_place_82, .ref m_stood_83, .ref m_history_84, .ref m_groupHistory_85, .int 0, .int 0, .int 0, .int 0, .ref m_didRide_86, .ref m_toldRow_87, .ref m_passedBy_88, .ref m_total_89, .ref m_points_90, .ref m_used_91])), (m_rises_62, .inl (cI, 30, .inl (fun _ => 0))), (m_winds_63, .inl (cI, 30, .inl (fun _ => 0)))]) [0, 1, 2] (by decide) rfl
        have hFc := va_free (wc := [(q_57, .inr (10, [.int 0, .int 1, .int 0, .int (-1), .int 0, .int 0, .int 0, .int 20, .ref m_teamOf_58, .ref m_steady_59, .ref m_full_60, .ref m_climb_61, .ref m_rises_62, .ref m_winds_63, .ref m_primeAt_64, .ref m_tape_65, .int 0, .int 0, .int 0, .ref m_clauses_66, .ref m_letter_67, .ref m_sign_68, .ref m_bar_69, .ref m_pace_70, .ref m_rides_71, .ref m_isOut_72, .ref m_metre_73, .ref m_charge_74, .ref m_held_75, .ref m_seconds_76, .ref m_heldOften_77, .ref m_work_78, .ref m_primeSeconds_79, .int 0, .long 0, .ref m_row_80, .int 0, .ref m_groupSize_81, .ref m_place_82, .ref m_stood_83, .ref m_history_84, .ref m_groupHistory_85, .int 0, .int 0, .int 0, .int 0, .ref m_didRide_86, .ref m_toldRow_87, .ref m_passedBy_88, .ref m_total_89, .ref m_points_90, .ref m_used_91])), (m_rises_62, .inl (cI, 30, .inl (fun _ => 0))), (m_winds_63, .inl (cI, 30, .inl (fun _ => 0)))]) hD hS hA [0, 1, 2] rfl
        refine va_calli (va_runV (As := [.int (xs (Int32.toNatClampNeg 1)), .int (xs (Int32.toNatClampNeg 2)), .int (xs (Int32.toNatClampNeg 3))]) (rest := [.int 0]) ⟨hx, hb, hml, hown, hts⟩ (c_X10_rise l dC dI cI cZ (H).size q_57 m_teamOf_58 m_steady_59 m_full_60 m_climb_61 m_rises_62 m_winds_63 m_primeAt_64 m_tape_65 m_clauses_66 m_letter_67 m_sign_68 m_bar_69 m_pace_70 m_rides_71 m_isOut_72 m_metre_73 m_charge_74 m_held_75 m_seconds_76 m_heldOften_77 m_work_78 m_primeSeconds_79 m_row_80 m_groupSize_81 m_place_82 m_stood_83 m_history_84 m_groupHistory_85 m_didRide_86 m_toldRow_87 m_passedBy_88 m_total_89 m_points_90 m_used_91 (xs (Int32.toNatClampNeg 1)) ((xs (Int32.toNatClampNeg 1)).toInt) rfl (xs (Int32.toNatClampNeg 2)) ((xs (Int32.toNatClampNeg 2)).toInt) rfl (xs (Int32.toNatClampNeg 3)) ((xs (Int32.toNatClampNeg 3)).toInt) rfl) ⟨callB_of 3 hts (zz_goodL zw_908) rfl rfl rfl hw7 hw25 (by decide +kernel) ⟨Nat.le_of_ble_eq_true rfl, Nat.le_of_ble_eq_true rfl⟩, hw26, hw27⟩ ⟨fun a U g mk q => by obtain ⟨q0, q1, qP, qK, qD⟩ := q; exact ⟨q0, q1, qP, va_K.moved (u := U) (U := U.calling g mk a) (Vm.Alike.refl U.vm) qK, qD⟩, va_recv hK hPc (ci := 10) (q0 := 0) rfl rfl, fun U hU hW => ⟨rfl, by rw [hU], by rw [hU]; exact hPc, va_K.moved hW.alike hK, hDc.weaken (fun _ _ _ _ => trivial)⟩⟩ rfl rfl hl.1 rfl (lv_room (Nat.le_of_ble_eq_true rfl)) dL_law_251 ⟨Nat.le_of_ble_eq_true rfl, Nat.le_of_ble_eq_true rfl⟩) hS (fun q _ h => hFc q h) hFc (fun r_150 u t H1 locs ht hvm hpost hB hz1 hk1 hS => ?_)
        subst hpost
        obtain ⟨hf_151, hP1, hK1, hD1⟩ := hB
        rw [ht] at hP1
        obtain ⟨hP, hD⟩ := va_join (wr := []) (w1 := []) hP hD [0, 1, 2] [] rfl rfl (by decide) (by decide) hk1 hFc hP1 hD1
        generalize H1 = H at hP hS ⊢
        have hP : va_P (dC, dI) vwCl [] H := hP
        have hD : va_D (fun q : Nat => s.heap.size ≤ q) [] := hD
        have hf_151 : (r_150 = 1 ∧ (((xs (Int32.toNatClampNeg 1)).toInt) = 0 ∧ -5 ≤ ((xs (Int32.toNatClampNeg 2)).toInt) ∧ ((xs (Int32.toNatClampNeg 2)).toInt) ≤ 10 ∧ -3 ≤ ((xs (Int32.toNatClampNeg 3)).toInt) ∧ ((xs (Int32.toNatClampNeg 3)).toInt) ≤ 9)) ∨ (r_150 = 0 ∧ ¬ (((xs (Int32.toNatClampNeg 1)).toInt) = 0 ∧ -5 ≤ ((xs (Int32.toNatClampNeg 2)).toInt) ∧ ((xs (Int32.toNatClampNeg 2)).toInt) ≤ 10 ∧ -3 ≤ ((xs (Int32.toNatClampNeg 3)).toInt) ∧ ((xs (Int32.toNatClampNeg 3)).toInt) ≤ 9)) := hf_151
        rcases hf_151 with ⟨rfl, hf_151⟩ | ⟨rfl, hf_151⟩
        ·
          exfalso
          omega
        ·
          refine lv_icmp_eq (tgt := 931) hx hb dL_law_254 (by decide) (fun c_153 => ?_) (fun c_153 => ?_)
          ·
            refine lv_iinc (v := 7) (lv' := [(3, .int 7), (2, .ref q_57), (1, .ref q_1), (0, .ref b)]) hx hb dL_law_931 hl (k := 0) rfl (by decide) (by decide) rfl (fun ls hl => ?_)
            refine lv_goto (tgt := 18) hx hb dL_law_934 (by decide) ?_
            refine lv_iload_n hx hb dL_law_18 rfl (lv_at hl 0 rfl) ?_
            refine lv_aload_n hx hb dL_law_19 rfl (lv_at hl 3 rfl) ?_
            refine va_slen hx hb hX hbl hbA hS dL_law_20 ?_
            refine lv_bipush (v := 7) hx hb dL_law_21 (by decide) ?_
            refine lv_isub hx hb dL_law_23 ?_
            refine lv_topi (fun v_154 ev_154 => ?_)
            have hv_154 : v_154.toInt = ((L : Int) - (7:Int)) := by rw [ev_154]; exact zz_subI (nI_toInt (by omega)) (by decide) (by omega) (by omega)
            refine lv_icmp_gt (tgt := 937) hx hb dL_law_24 (by decide) (fun c_155 => ?_) (fun c_155 => ?_)
            ·
              have c_155 : ((L : Int) - (7:Int)) < (7:Int) := zz_lt hv_154 (by decide) c_155
              refine lv_iconst (v := 1) hx hb dL_law_937 (by decide) ?_
              refine va_forget (fun q hq => hS.2.2 q hq) ?_
              refine W.widen (k := 91) (n := 20364) (Nat.le_of_ble_eq_true rfl) (Nat.le_of_ble_eq_true rfl) ?_
              exact lw_ret hx hb hr hlocks dL_law_938
            ·
              have c_155 : ¬ (((L : Int) - (7:Int)) < (7:Int)) := zz_ltn hv_154 (by decide) c_155
              exact absurd c_155 (by omega)
          ·
            exact absurd c_153 (by decide)
    ·
      refine lv_tableIn (tgt := 259) (off := 226) hx hb dL_law_33 (by rw [hs_95]; omega) (by rw [hs_95]; omega) (by rw [hs_95, q_96]; rfl) (by decide) ?_
      have hP := hP.sub (ws' := [(q_1, .inr (9, [.ref x_riders_2, .ref x_road_7, .ref x_tape_11, .ref x_book_13, .ref x_reader_19, .ref x_latest_20, .ref x_log_35, .ref x_trial_38, .ref x_stages_53, .int 0, .int 0, .int 0])), (x_road_7, .inr (6, [.int 1, .ref x_ro_rises_8, .ref x_ro_winds_9, .int 0, .ref x_ro_primeMetres_10, .int 0, .int 0])), (x_ro_rises_8, .inl (cI, 30, .inl (fun _ => 0))), (x_ro_winds_9, .inl (cI, 30, .inl (fun _ => 0))), (x_ro_primeMetres_10, .inl (cI, 5, .inl (fun _ => 0))), (q_57, .inr (10, [.int 0, .int 1, .int 0, .int (-1), .int 0, .int 0, .int 0, .int 20, .ref m_teamOf_58, .ref m_steady_59, .ref m_full_60, .ref m_climb_61, .ref m_rises_62, .ref m_winds_63, .ref m_primeAt_64, .ref m_tape_65, .int 0, .int 0, .int 0, .ref m_clauses_66, .ref m_letter_67, .ref m_sign_68, .ref m_bar_69, .ref m_pace_70, .ref m_rides_71, .ref m_isOut_72, .ref m_metre_73, .ref m_charge_74, .ref m_held_75, .ref m_seconds_76, .ref m_heldOften_77, .ref m_work_78, .ref m_primeSeconds_79, .int 0, .long 0, .ref m_row_80, .int 0, .ref m_groupSize_81, .ref m_place_82, .ref m_stood_83, .ref m_history_84, .ref m_groupHistory_85, .int 0, .int 0, .int 0, .int 0, .ref m_didRide_86, .ref m_toldRow_87, .ref m_passedBy_88, .ref m_total_89, .ref m_points_90, .ref m_used_91])), (m_primeAt_64, .inl (cI, 5, .inl (fun _ => 0)))]) [0, 6, 7, 8, 9, 56, 63] rfl
      have hD := hD.sub (ws' := [(q_1, .inr (9, [.ref x_riders_2, .ref x_road_7, .ref x_tape_11, .ref x_book_13, .ref x_reader_19, .ref x_latest_20, .ref x_log_35, .ref x_trial_38, .ref x_stages_53, .int 0, .int 0, .int 0])), (x_road_7, .inr (6, [.int 1, .ref x_ro_rises_8, .ref x_ro_winds_9, .int 0, .ref x_ro_primeMetres_10, .int 0, .int 0])), (x_ro_rises_8, .inl (cI, 30, .inl (fun _ => 0))), (x_ro_winds_9, .inl (cI, 30, .inl (fun _ => 0))), (x_ro_primeMetres_10, .inl (cI, 5, .inl (fun _ => 0))), (q_57, .inr (10, [.int 0, .int 1, .int 0, .int (-1), .int 0, .int 0, .int 0, .int 20, .ref m_teamOf_58, .ref m_steady_59, .ref m_full_60, .ref m_climb_61, .ref m_rises_62, .ref m_winds_63, .ref m_primeAt_64, .ref m_tape_65, .int 0, .int 0, .int 0, .ref m_clauses_66, .ref m_letter_67, .ref m_sign_68, .ref m_bar_69, .ref m_pace_70, .ref m_rides_71, .ref m_isOut_72, .ref m_metre_73, .ref m_charge_74, .ref m_held_75, .ref m_seconds_76, .ref m_heldOften_77, .ref m_work_78, .ref m_primeSeconds_79, .int 0, .long 0, .ref m_row_80, .int 0, .ref m_groupSize_81, .ref m_place_82, .ref m_stood_83, .ref m_history_84, .ref m_groupHistory_85, .int 0, .int 0, .int 0, .int 0, .ref m_didRide_86, .ref m_toldRow_87, .ref m_passedBy_88, .ref m_total_89, .ref m_points_90, .ref m_used_91])), (m_primeAt_64, .inl (cI, 5, .inl (fun _ => 0)))]) [0, 6, 7, 8, 9, 56, 63] (by decide) rfl
      refine lv_aload_n hx hb dL_law_259 rfl (lv_at hl 2 rfl) ?_
      refine lv_aload_n hx hb dL_law_260 rfl (lv_at hl 3 rfl) ?_
      refine lv_iload_n hx hb dL_law_261 rfl (lv_at hl 0 rfl) ?_
      refine lv_iconst (v := 1) hx hb dL_law_262 (by decide) ?_
      refine lv_iadd hx hb dL_law_263 ?_
      refine lv_topi (fun v_156 ev_156 => ?_)
      obtain rfl : v_156 = 1 := ev_156.trans (by decide)
      refine va_sld hx hb hX hbl hbA hS (zz_in (a := (1:Int)) (by decide) (by omega) (by omega)) dL_law_264 ?_
      have hPc := hP.sub (ws' := [(q_1, .inr (9, [.ref x_riders_2, .ref x_road_7, .ref x_tape_11, .ref x_book_13, .ref x_reader_19, .ref x_latest_20, .ref x_log_35, .ref x_trial_38, .ref x_stages_53, .int 0, .int 0, .int 0])), (x_road_7, .inr (6, [.int 1, .ref x_ro_rises_8, .ref x_ro_winds_9, .int 0, .ref x_ro_primeMetres_10, .int 0, .int 0])), (x_ro_rises_8, .inl (cI, 30, .inl (fun _ => 0))), (x_ro_winds_9, .inl (cI, 30, .inl (fun _ => 0))), (x_ro_primeMetres_10, .inl (cI, 5, .inl (fun _ => 0)))]) [0, 1, 2, 3, 4] rfl
      have hDc := hD.sub (ws' := [(q_1, .inr (9, [.ref x_riders_2, .ref x_road_7, .ref x_tape_11, .ref x_book_13, .ref x_reader_19, .ref x_latest_20, .ref x_log_35, .ref x_trial_38, .ref x_stages_53, .int 0, .int 0, .int 0])), (x_road_7, .inr (6, [.int 1, .ref x_ro_rises_8, .ref x_ro_winds_9, .int 0, .ref x_ro_primeMetres_10, .int 0, .int 0])), (x_ro_rises_8, .inl (cI, 30, .inl (fun _ => 0))), (x_ro_winds_9, .inl (cI, 30, .inl (fun _ => 0))), (x_ro_primeMetres_10, .inl (cI, 5, .inl (fun _ => 0)))]) [0, 1, 2, 3, 4] (by decide) rfl
      have hFc := va_free (wc := [(q_1, .inr (9, [.ref x_riders_2, .ref x_road_7, .ref x_tape_11, .ref x_book_13, .ref x_reader_19, .ref x_latest_20, .ref x_log_35, .ref x_trial_38, .ref x_stages_53, .int 0, .int 0, .int 0])), (x_road_7, .inr (6, [.int 1, .ref x_ro_rises_8, .ref x_ro_winds_9, .int 0, .ref x_ro_primeMetres_10, .int 0, .int 0])), (x_ro_rises_8, .inl (cI, 30, .inl (fun _ => 0))), (x_ro_winds_9, .inl (cI, 30, .inl (fun _ => 0))), (x_ro_primeMetres_10, .inl (cI, 5, .inl (fun _ => 0)))]) hD hS hA [0, 1, 2, 3, 4] rfl
      refine va_calli (va_runV (As := [.int (xs (Int32.toNatClampNeg 1))]) (rest := []) ⟨hx, hb, hml, hown, hts⟩ (c_X9_prime l dC dI cI cZ (H).size q_1 x_riders_2 x_road_7 x_tape_11 x_book_13 x_reader_19 x_latest_20 x_log_35 x_trial_38 x_stages_53 x_ro_rises_8 x_ro_winds_9 x_ro_primeMetres_10 (xs (Int32.toNatClampNeg 1)) ((xs (Int32.toNatClampNeg 1)).toInt) rfl) ⟨callB_of 1 hts (zz_goodL zw_401) rfl rfl rfl hw2 hw28 (by decide +kernel) ⟨Nat.le_of_ble_eq_true rfl, Nat.le_of_ble_eq_true rfl⟩, hw29, hw30⟩ ⟨fun a U g mk q => by obtain ⟨q0, q1, qP, qK, qD⟩ := q; exact ⟨q0, q1, qP, va_K.moved (u := U) (U := U.calling g mk a) (Vm.Alike.refl U.vm) qK, qD⟩, va_recv hK hPc (ci := 9) (q0 := 0) rfl rfl, fun U hU hW => ⟨rfl, by rw [hU], by rw [hU]; exact hPc, va_K.moved hW.alike hK, hDc.weaken (fun _ _ _ _ => trivial)⟩⟩ rfl rfl hl.1 rfl (lv_room (Nat.le_of_ble_eq_true rfl)) dL_law_265 ⟨Nat.le_of_ble_eq_true rfl, Nat.le_of_ble_eq_true rfl⟩) hS (fun q _ h => hFc q h) hFc (fun r_157 u t H1 locs ht hvm hpost hB hz1 hk1 hS => ?_)
      subst hpost
      obtain ⟨hf_158, hP1, hK1, hD1⟩ := hB
      rw [ht] at hP1
      obtain ⟨hP, hD⟩ := va_join (wr := [(q_57, .inr (10, [.int 0, .int 1, .int 0, .int (-1), .int 0, .int 0, .int 0, .int 20, .ref m_teamOf_58, .ref m_steady_59, .ref m_full_60, .ref m_climb_61, .ref m_rises_62, .ref m_winds_63, .ref m_primeAt_64, .ref m_tape_65, .int 0, .int 0, .int 0, .ref m_clauses_66, .ref m_letter_67, .ref m_sign_68, .ref m_bar_69, .ref m_pace_70, .ref m_rides_71, .ref m_isOut_72, .ref m_metre_73, .ref m_charge_74, .ref m_held_75, .ref m_seconds_76, .ref m_heldOften_77, .ref m_work_78, .ref m_primeSeconds_79, .int 0, .long 0, .ref m_row_80, .int 0, .ref m_groupSize_81, .ref m_place_82, .ref m_stood_83, .ref m_history_84, .ref m_groupHistory_85, .int 0, .int 0, .int 0, .int 0, .ref m_didRide_86, .ref m_toldRow_87, .ref m_passedBy_88, .ref m_total_89, .ref m_points_90, .ref m_used_91])), (m_primeAt_64, .inl (cI, 5, .inl (fun _ => 0)))]) (w1 := []) hP hD [0, 1, 2, 3, 4] [5, 6] rfl rfl (by decide) (by decide) hk1 hFc hP1 hD1
      generalize H1 = H at hP hS ⊢
      have hP : va_P (dC, dI) vwCl [(q_57, .inr (10, [.int 0, .int 1, .int 0, .int (-1), .int 0, .int 0, .int 0, .int 20, .ref m_teamOf_58, .ref m_steady_59, .ref m_full_60, .ref m_climb_61, .ref m_rises_62, .ref m_winds_63, .ref m_primeAt_64, .ref m_tape_65, .int 0, .int 0, .int 0, .ref m_clauses_66, .ref m_letter_67, .ref m_sign_68, .ref m_bar_69, .ref m_pace_70, .ref m_rides_71, .ref m_isOut_72, .ref m_metre_73, .ref m_charge_74, .ref m_held_75, .ref m_seconds_76, .ref m_heldOften_77, .ref m_work_78, .ref m_primeSeconds_79, .int 0, .long 0, .ref m_row_80, .int 0, .ref m_groupSize_81, .ref m_place_82, .ref m_stood_83, .ref m_history_84, .ref m_groupHistory_85, .int 0, .int 0, .int 0, .int 0, .ref m_didRide_86, .ref m_toldRow_87, .ref m_passedBy_88, .ref m_total_89, .ref m_points_90, .ref m_used_91])), (m_primeAt_64, .inl (cI, 5, .inl (fun _ => 0)))] H := hP
      have hD : va_D (fun q : Nat => s.heap.size ≤ q) [(q_57, .inr (10, [.int 0, .int 1, .int 0, .int (-1), .int 0, .int 0, .int 0, .int 20, .ref m_teamOf_58, .ref m_steady_59, .ref m_full_60, .ref m_climb_61, .ref m_rises_62, .ref m_winds_63, .ref m_primeAt_64, .ref m_tape_65, .int 0, .int 0, .int 0, .ref m_clauses_66, .ref m_letter_67, .ref m_sign_68, .ref m_bar_69, .ref m_pace_70, .ref m_rides_71, .ref m_isOut_72, .ref m_metre_73, .ref m_charge_74, .ref m_held_75, .ref m_seconds_76, .ref m_heldOften_77, .ref m_work_78, .ref m_primeSeconds_79, .int 0, .long 0, .ref m_row_80, .int 0, .ref m_groupSize_81, .ref m_place_82, .ref m_stood_83, .ref m_history_84, .ref m_groupHistory_85, .int 0, .int 0, .int 0, .int 0, .ref m_didRide_86, .ref m_toldRow_87, .ref m_passedBy_88, .ref m_total_89, .ref m_points_90, .ref m_used_91])), (m_primeAt_64, .inl (cI, 5, .inl (fun _ => 0)))] := hD
      have hf_158 : ((1 ≤ ((xs (Int32.toNatClampNeg 1)).toInt) ∧ ((xs (Int32.toNatClampNeg 1)).toInt) ≤ 999) ∧ r_157.toInt = 0) ∨ (¬ (1 ≤ ((xs (Int32.toNatClampNeg 1)).toInt) ∧ ((xs (Int32.toNatClampNeg 1)).toInt) ≤ 999) ∧ r_157.toInt = -1) := hf_158
      refine lv_aload_n hx hb dL_law_268 rfl (lv_at hl 1 rfl) ?_
      refine lv_aload_n hx hb dL_law_269 rfl (lv_at hl 3 rfl) ?_
      refine lv_iload_n hx hb dL_law_270 rfl (lv_at hl 0 rfl) ?_
      refine lv_iconst (v := 1) hx hb dL_law_271 (by decide) ?_
      refine lv_iadd hx hb dL_law_272 ?_
      refine lv_topi (fun v_159 ev_159 => ?_)
      obtain rfl : v_159 = 1 := ev_159.trans (by decide)
      refine va_sld hx hb hX hbl hbA hS (zz_in (a := (1:Int)) (by decide) (by omega) (by omega)) dL_law_273 ?_
      have hPc := hP.sub (ws' := [(q_57, .inr (10, [.int 0, .int 1, .int 0, .int (-1), .int 0, .int 0, .int 0, .int 20, .ref m_teamOf_58, .ref m_steady_59, .ref m_full_60, .ref m_climb_61, .ref m_rises_62, .ref m_winds_63, .ref m_primeAt_64, .ref m_tape_65, .int 0, .int 0, .int 0, .ref m_clauses_66, .ref m_letter_67, .ref m_sign_68, .ref m_bar_69, .ref m_pace_70, .ref m_rides_71, .ref m_isOut_72, .ref m_metre_73, .ref m_charge_74, .ref m_held_75, .ref m_seconds_76, .ref m_heldOften_77, .ref m_work_78, .ref m_primeSeconds_79, .int 0, .long 0, .ref m_row_80, .int 0, .ref m_groupSize_81, .ref m_place_82, .ref m_stood_83, .ref m_history_84, .ref m_groupHistory_85, .int 0, .int 0, .int 0, .int 0, .ref m_didRide_86, .ref m_toldRow_87, .ref m_passedBy_88, .ref m_total_89, .ref m_points_90, .ref m_used_91])), (m_primeAt_64, .inl (cI, 5, .inl (fun _ => 0)))]) [0, 1] rfl
      have hDc := hD.sub (ws' := [(q_57, .inr (10, [.int 0, .int 1, .int 0, .int (-1), .int 0, .int 0, .int 0, .int 20, .ref m_teamOf_58, .ref m_steady_59, .ref m_full_60, .ref m_climb_61, .ref m_rises_62, .ref m_winds_63, .ref m_primeAt_64, .ref m_tape_65, .int 0, .int 0, .int 0, .ref m_clauses_66, .ref m_letter_67, .ref m_sign_68, .ref m_bar_69, .ref m_pace_70, .ref m_rides_71, .ref m_isOut_72, .ref m_metre_73, .ref m_charge_74, .ref m_held_75, .ref m_seconds_76, .ref m_heldOften_77, .ref m_work_78, .ref m_primeSeconds_79, .int 0, .long 0, .ref m_row_80, .int 0, .ref m_groupSize_81, .ref m_place_82, .ref m_stood_83, .ref m_history_84, .ref m_groupHistory_85, .int 0, .int 0, .int 0, .int 0, .ref m_didRide_86, .ref m_toldRow_87, .ref m_passedBy_88, .ref m_total_89, .ref m_points_90, .ref m_used_91])), (m_primeAt_64, .inl (cI, 5, .inl (fun _ => 0)))]) [0, 1] (by decide) rfl
      have hFc := va_free (wc := [(q_57, .inr (10, [.int 0, .int 1, .int 0, .int (-1), .int 0, .int 0, .int 0, .int 20, .ref m_teamOf_58, .ref m_steady_59, .ref m_full_60, .ref m_climb_61, .ref m_rises_62, .ref m_winds_63, .ref m_primeAt_64, .ref m_tape_65, .int 0, .int 0, .int 0, .ref m_clauses_66, .ref m_letter_67, .ref m_sign_68, .ref m_bar_69, .ref m_pace_70, .ref m_rides_71, .ref m_isOut_72, .ref m_metre_73, .ref m_charge_74, .ref m_held_75, .ref m_seconds_76, .ref m_heldOften_77, .ref m_work_78, .ref m_primeSeconds_79, .int 0, .long 0, .ref m_row_80, .int 0, .ref m_groupSize_81, .ref m_place_82, .ref m_stood_83, .ref m_history_84, .ref m_groupHistory_85, .int 0, .int 0, .int 0, .int 0, .ref m_didRide_86, .ref m_toldRow_87, .ref m_passedBy_88, .ref m_total_89, .ref m_points_90, .ref m_used_91])), (m_primeAt_64, .inl (cI, 5, .inl (fun _ => 0)))]) hD hS hA [0, 1] rfl
      refine va_calli (va_runV (As := [.int (xs (Int32.toNatClampNeg 1))]) (rest := [.int r_157]) ⟨hx, hb, hml, hown, hts⟩ (c_X10_prime l dC dI cI cZ (H).size q_57 m_teamOf_58 m_steady_59 m_full_60 m_climb_61 m_rises_62 m_winds_63 m_primeAt_64 m_tape_65 m_clauses_66 m_letter_67 m_sign_68 m_bar_69 m_pace_70 m_rides_71 m_isOut_72 m_metre_73 m_charge_74 m_held_75 m_seconds_76 m_heldOften_77 m_work_78 m_primeSeconds_79 m_row_80 m_groupSize_81 m_place_82 m_stood_83 m_history_84 m_groupHistory_85 m_didRide_86 m_toldRow_87 m_passedBy_88 m_total_89 m_points_90 m_used_91 (xs (Int32.toNatClampNeg 1)) ((xs (Int32.toNatClampNeg 1)).toInt) rfl) ⟨callB_of 1 hts (zz_goodL zw_912) rfl rfl rfl hw7 hw31 (by decide +kernel) ⟨Nat.le_of_ble_eq_true rfl, Nat.le_of_ble_eq_true rfl⟩, hw32, hw33⟩ ⟨fun a U g mk q => by obtain ⟨q0, q1, qP, qK, qD⟩ := q; exact ⟨q0, q1, qP, va_K.moved (u := U) (U := U.calling g mk a) (Vm.Alike.refl U.vm) qK, qD⟩, va_recv hK hPc (ci := 10) (q0 := 0) rfl rfl, fun U hU hW => ⟨rfl, by rw [hU], by rw [hU]; exact hPc, va_K.moved hW.alike hK, hDc.weaken (fun _ _ _ _ => trivial)⟩⟩ rfl rfl hl.1 rfl (lv_room (Nat.le_of_ble_eq_true rfl)) dL_law_274 ⟨Nat.le_of_ble_eq_true rfl, Nat.le_of_ble_eq_true rfl⟩) hS (fun q _ h => hFc q h) hFc (fun r_160 u t H1 locs ht hvm hpost hB hz1 hk1 hS => ?_)
      subst hpost
      obtain ⟨hf_161, hP1, hK1, hD1⟩ := hB
      rw [ht] at hP1
      obtain ⟨hP, hD⟩ := va_join (wr := []) (w1 := []) hP hD [0, 1] [] rfl rfl (by decide) (by decide) hk1 hFc hP1 hD1
      generalize H1 = H at hP hS ⊢
      have hP : va_P (dC, dI) vwCl [] H := hP
      have hD : va_D (fun q : Nat => s.heap.size ≤ q) [] := hD
      have hf_161 : ((1 ≤ ((xs (Int32.toNatClampNeg 1)).toInt) ∧ ((xs (Int32.toNatClampNeg 1)).toInt) ≤ 999) ∧ r_160.toInt = 0) ∨ (¬ (1 ≤ ((xs (Int32.toNatClampNeg 1)).toInt) ∧ ((xs (Int32.toNatClampNeg 1)).toInt) ≤ 999) ∧ r_160.toInt = -1) := hf_161
      refine lv_icmp_eq (tgt := 931) hx hb dL_law_277 (by decide) (fun c_162 => ?_) (fun c_162 => ?_)
      ·
        have c_162 : (r_157).toInt = (r_160).toInt := zz_eq rfl rfl c_162
        refine lv_iinc (v := 7) (lv' := [(3, .int 7), (2, .ref q_57), (1, .ref q_1), (0, .ref b)]) hx hb dL_law_931 hl (k := 0) rfl (by decide) (by decide) rfl (fun ls hl => ?_)
        refine lv_goto (tgt := 18) hx hb dL_law_934 (by decide) ?_
        refine lv_iload_n hx hb dL_law_18 rfl (lv_at hl 0 rfl) ?_
        refine lv_aload_n hx hb dL_law_19 rfl (lv_at hl 3 rfl) ?_
        refine va_slen hx hb hX hbl hbA hS dL_law_20 ?_
        refine lv_bipush (v := 7) hx hb dL_law_21 (by decide) ?_
        refine lv_isub hx hb dL_law_23 ?_
        refine lv_topi (fun v_163 ev_163 => ?_)
        have hv_163 : v_163.toInt = ((L : Int) - (7:Int)) := by rw [ev_163]; exact zz_subI (nI_toInt (by omega)) (by decide) (by omega) (by omega)
        refine lv_icmp_gt (tgt := 937) hx hb dL_law_24 (by decide) (fun c_164 => ?_) (fun c_164 => ?_)
        ·
          have c_164 : ((L : Int) - (7:Int)) < (7:Int) := zz_lt hv_163 (by decide) c_164
          refine lv_iconst (v := 1) hx hb dL_law_937 (by decide) ?_
          refine va_forget (fun q hq => hS.2.2 q hq) ?_
          refine W.widen (k := 91) (n := 20364) (Nat.le_of_ble_eq_true rfl) (Nat.le_of_ble_eq_true rfl) ?_
          exact lw_ret hx hb hr hlocks dL_law_938
        ·
          have c_164 : ¬ (((L : Int) - (7:Int)) < (7:Int)) := zz_ltn hv_163 (by decide) c_164
          exact absurd c_164 (by omega)
      ·
        have c_162 : ¬ ((r_157).toInt = (r_160).toInt) := zz_eqn rfl rfl c_162
        exact absurd c_162 (by omega)
    ·
      refine lv_tableIn (tgt := 282) (off := 249) hx hb dL_law_33 (by rw [hs_95]; omega) (by rw [hs_95]; omega) (by rw [hs_95, q_96]; rfl) (by decide) ?_
      have hP := hP.sub (ws' := [(q_1, .inr (9, [.ref x_riders_2, .ref x_road_7, .ref x_tape_11, .ref x_book_13, .ref x_reader_19, .ref x_latest_20, .ref x_log_35, .ref x_trial_38, .ref x_stages_53, .int 0, .int 0, .int 0])), (x_road_7, .inr (6, [.int 1, .ref x_ro_rises_8, .ref x_ro_winds_9, .int 0, .ref x_ro_primeMetres_10, .int 0, .int 0])), (x_ro_rises_8, .inl (cI, 30, .inl (fun _ => 0))), (x_ro_winds_9, .inl (cI, 30, .inl (fun _ => 0))), (x_ro_primeMetres_10, .inl (cI, 5, .inl (fun _ => 0))), (q_57, .inr (10, [.int 0, .int 1, .int 0, .int (-1), .int 0, .int 0, .int 0, .int 20, .ref m_teamOf_58, .ref m_steady_59, .ref m_full_60, .ref m_climb_61, .ref m_rises_62, .ref m_winds_63, .ref m_primeAt_64, .ref m_tape_65, .int 0, .int 0, .int 0, .ref m_clauses_66, .ref m_letter_67, .ref m_sign_68, .ref m_bar_69, .ref m_pace_70, .ref m_rides_71, .ref m_isOut_72, .ref m_metre_73, .ref m_charge_74, .ref m_held_75, .ref m_seconds_76, .ref m_heldOften_77, .ref m_work_78, .ref m_primeSeconds_79, .int 0, .long 0, .ref m_row_80, .int 0, .ref m_groupSize_81, .ref m_place_82, .ref m_stood_83, .ref m_history_84, .ref m_groupHistory_85, .int 0, .int 0, .int 0, .int 0, .ref m_didRide_86, .ref m_toldRow_87, .ref m_passedBy_88, .ref m_total_89, .ref m_points_90, .ref m_used_91]))]) [0, 6, 7, 8, 9, 56] rfl
      have hD := hD.sub (ws' := [(q_1, .inr (9, [.ref x_riders_2, .ref x_road_7, .ref x_tape_11, .ref x_book_13, .ref x_reader_19, .ref x_latest_20, .ref x_log_35, .ref x_trial_38, .ref x_stages_53, .int 0, .int 0, .int 0])), (x_road_7, .inr (6, [.int 1, .ref x_ro_rises_8, .ref x_ro_winds_9, .int 0, .ref x_ro_primeMetres_10, .int 0, .int 0])), (x_ro_rises_8, .inl (cI, 30, .inl (fun _ => 0))), (x_ro_winds_9, .inl (cI, 30, .inl (fun _ => 0))), (x_ro_primeMetres_10, .inl (cI, 5, .inl (fun _ => 0))), (q_57, .inr (10, [.int 0, .int 1, .int 0, .int (-1), .int 0, .int 0, .int 0, .int 20, .ref m_teamOf_58, .ref m_steady_59, .ref m_full_60, .ref m_climb_61, .ref m_rises_62, .ref m_winds_63, .ref m_primeAt_64, .ref m_tape_65, .int 0, .int 0, .int 0, .ref m_clauses_66, .ref m_letter_67, .ref m_sign_68, .ref m_bar_69, .ref m_pace_70, .ref m_rides_71, .ref m_isOut_72, .ref m_metre_73, .ref m_charge_74, .ref m_held_75, .ref m_seconds_76, .ref m_heldOften_77, .ref m_work_78, .ref m_primeSeconds_79, .int 0, .long 0, .ref m_row_80, .int 0, .ref m_groupSize_81, .ref m_place_82, .ref m_stood_83, .ref m_history_84, .ref m_groupHistory_85, .int 0, .int 0, .int 0, .int 0, .ref m_didRide_86, .ref m_toldRow_87, .ref m_passedBy_88, .ref m_total_89, .ref m_points_90, .ref m_used_91]))]) [0, 6, 7, 8, 9, 56] (by decide) rfl
      refine lv_aload_n hx hb dL_law_282 rfl (lv_at hl 2 rfl) ?_
      refine lv_aload_n hx hb dL_law_283 rfl (lv_at hl 3 rfl) ?_
      refine lv_iload_n hx hb dL_law_284 rfl (lv_at hl 0 rfl) ?_
      refine lv_iconst (v := 1) hx hb dL_law_285 (by decide) ?_
      refine lv_iadd hx hb dL_law_286 ?_
      refine lv_topi (fun v_165 ev_165 => ?_)
      obtain rfl : v_165 = 1 := ev_165.trans (by decide)
      refine va_sld hx hb hX hbl hbA hS (zz_in (a := (1:Int)) (by decide) (by omega) (by omega)) dL_law_287 ?_
      refine lv_aload_n hx hb dL_law_288 rfl (lv_at hl 3 rfl) ?_
      refine lv_iload_n hx hb dL_law_289 rfl (lv_at hl 0 rfl) ?_
      refine lv_iconst (v := 2) hx hb dL_law_290 (by decide) ?_
      refine lv_iadd hx hb dL_law_291 ?_
      refine lv_topi (fun v_166 ev_166 => ?_)
      obtain rfl : v_166 = 2 := ev_166.trans (by decide)
      refine va_sld hx hb hX hbl hbA hS (zz_in (a := (2:Int)) (by decide) (by omega) (by omega)) dL_law_292 ?_
      have hPc := hP.sub (ws' := [(q_1, .inr (9, [.ref x_riders_2, .ref x_road_7, .ref x_tape_11, .ref x_book_13, .ref x_reader_19, .ref x_latest_20, .ref x_log_35, .ref x_trial_38, .ref x_stages_53, .int 0, .int 0, .int 0])), (x_road_7, .inr (6, [.int 1, .ref x_ro_rises_8, .ref x_ro_winds_9, .int 0, .ref x_ro_primeMetres_10, .int 0, .int 0])), (x_ro_rises_8, .inl (cI, 30, .inl (fun _ => 0))), (x_ro_winds_9, .inl (cI, 30, .inl (fun _ => 0))), (x_ro_primeMetres_10, .inl (cI, 5, .inl (fun _ => 0)))]) [0, 1, 2, 3, 4] rfl
      have hDc := hD.sub (ws' := [(q_1, .inr (9, [.ref x_riders_2, .ref x_road_7, .ref x_tape_11, .ref x_book_13, .ref x_reader_19, .ref x_latest_20, .ref x_log_35, .ref x_trial_38, .ref x_stages_53, .int 0, .int 0, .int 0])), (x_road_7, .inr (6, [.int 1, .ref x_ro_rises_8, .ref x_ro_winds_9, .int 0, .ref x_ro_primeMetres_10, .int 0, .int 0])), (x_ro_rises_8, .inl (cI, 30, .inl (fun _ => 0))), (x_ro_winds_9, .inl (cI, 30, .inl (fun _ => 0))), (x_ro_primeMetres_10, .inl (cI, 5, .inl (fun _ => 0)))]) [0, 1, 2, 3, 4] (by decide) rfl
      have hFc := va_free (wc := [(q_1, .inr (9, [.ref x_riders_2, .ref x_road_7, .ref x_tape_11, .ref x_book_13, .ref x_reader_19, .ref x_latest_20, .ref x_log_35, .ref x_trial_38, .ref x_stages_53, .int 0, .int 0, .int 0])), (x_road_7, .inr (6, [.int 1, .ref x_ro_rises_8, .ref x_ro_winds_9, .int 0, .ref x_ro_primeMetres_10, .int 0, .int 0])), (x_ro_rises_8, .inl (cI, 30, .inl (fun _ => 0))), (x_ro_winds_9, .inl (cI, 30, .inl (fun _ => 0))), (x_ro_primeMetres_10, .inl (cI, 5, .inl (fun _ => 0)))]) hD hS hA [0, 1, 2, 3, 4] rfl
      refine va_calli (va_runV (As := [.int (xs (Int32.toNatClampNeg 1)), .int (xs (Int32.toNatClampNeg 2))]) (rest := []) ⟨hx, hb, hml, hown, hts⟩ (c_X9_crash l dC dI cI cZ (H).size q_1 x_riders_2 x_road_7 x_tape_11 x_book_13 x_reader_19 x_latest_20 x_log_35 x_trial_38 x_stages_53 x_ro_rises_8 x_ro_winds_9 x_ro_primeMetres_10 (xs (Int32.toNatClampNeg 1)) ((xs (Int32.toNatClampNeg 1)).toInt) rfl (xs (Int32.toNatClampNeg 2)) ((xs (Int32.toNatClampNeg 2)).toInt) rfl) ⟨callB_of 2 hts (zz_goodL zw_417) rfl rfl rfl hw2 hw34 (by decide +kernel) ⟨Nat.le_of_ble_eq_true rfl, Nat.le_of_ble_eq_true rfl⟩, hw35, hw36⟩ ⟨fun a U g mk q => by obtain ⟨q0, q1, qP, qK, qD⟩ := q; exact ⟨q0, q1, qP, va_K.moved (u := U) (U := U.calling g mk a) (Vm.Alike.refl U.vm) qK, qD⟩, va_recv hK hPc (ci := 9) (q0 := 0) rfl rfl, fun U hU hW => ⟨rfl, by rw [hU], by rw [hU]; exact hPc, va_K.moved hW.alike hK, hDc.weaken (fun _ _ _ _ => trivial)⟩⟩ rfl rfl hl.1 rfl (lv_room (Nat.le_of_ble_eq_true rfl)) dL_law_293 ⟨Nat.le_of_ble_eq_true rfl, Nat.le_of_ble_eq_true rfl⟩) hS (fun q _ h => hFc q h) hFc (fun r_167 u t H1 locs ht hvm hpost hB hz1 hk1 hS => ?_)
      subst hpost
      obtain ⟨hf_168, hP1, hK1, hD1⟩ := hB
      rw [ht] at hP1
      obtain ⟨hP, hD⟩ := va_join (wr := [(q_57, .inr (10, [.int 0, .int 1, .int 0, .int (-1), .int 0, .int 0, .int 0, .int 20, .ref m_teamOf_58, .ref m_steady_59, .ref m_full_60, .ref m_climb_61, .ref m_rises_62, .ref m_winds_63, .ref m_primeAt_64, .ref m_tape_65, .int 0, .int 0, .int 0, .ref m_clauses_66, .ref m_letter_67, .ref m_sign_68, .ref m_bar_69, .ref m_pace_70, .ref m_rides_71, .ref m_isOut_72, .ref m_metre_73, .ref m_charge_74, .ref m_held_75, .ref m_seconds_76, .ref m_heldOften_77, .ref m_work_78, .ref m_primeSeconds_79, .int 0, .long 0, .ref m_row_80, .int 0, .ref m_groupSize_81, .ref m_place_82, .ref m_stood_83, .ref m_history_84, .ref m_groupHistory_85, .int 0, .int 0, .int 0, .int 0, .ref m_didRide_86, .ref m_toldRow_87, .ref m_passedBy_88, .ref m_total_89, .ref m_points_90, .ref m_used_91]))]) (w1 := []) hP hD [0, 1, 2, 3, 4] [5] rfl rfl (by decide) (by decide) hk1 hFc hP1 hD1
      generalize H1 = H at hP hS ⊢
      have hP : va_P (dC, dI) vwCl [(q_57, .inr (10, [.int 0, .int 1, .int 0, .int (-1), .int 0, .int 0, .int 0, .int 20, .ref m_teamOf_58, .ref m_steady_59, .ref m_full_60, .ref m_climb_61, .ref m_rises_62, .ref m_winds_63, .ref m_primeAt_64, .ref m_tape_65, .int 0, .int 0, .int 0, .ref m_clauses_66, .ref m_letter_67, .ref m_sign_68, .ref m_bar_69, .ref m_pace_70, .ref m_rides_71, .ref m_isOut_72, .ref m_metre_73, .ref m_charge_74, .ref m_held_75, .ref m_seconds_76, .ref m_heldOften_77, .ref m_work_78, .ref m_primeSeconds_79, .int 0, .long 0, .ref m_row_80, .int 0, .ref m_groupSize_81, .ref m_place_82, .ref m_stood_83, .ref m_history_84, .ref m_groupHistory_85, .int 0, .int 0, .int 0, .int 0, .ref m_didRide_86, .ref m_toldRow_87, .ref m_passedBy_88, .ref m_total_89, .ref m_points_90, .ref m_used_91]))] H := hP
      have hD : va_D (fun q : Nat => s.heap.size ≤ q) [(q_57, .inr (10, [.int 0, .int 1, .int 0, .int (-1), .int 0, .int 0, .int 0, .int 20, .ref m_teamOf_58, .ref m_steady_59, .ref m_full_60, .ref m_climb_61, .ref m_rises_62, .ref m_winds_63, .ref m_primeAt_64, .ref m_tape_65, .int 0, .int 0, .int 0, .ref m_clauses_66, .ref m_letter_67, .ref m_sign_68, .ref m_bar_69, .ref m_pace_70, .ref m_rides_71, .ref m_isOut_72, .ref m_metre_73, .ref m_charge_74, .ref m_held_75, .ref m_seconds_76, .ref m_heldOften_77, .ref m_work_78, .ref m_primeSeconds_79, .int 0, .long 0, .ref m_row_80, .int 0, .ref m_groupSize_81, .ref m_place_82, .ref m_stood_83, .ref m_history_84, .ref m_groupHistory_85, .int 0, .int 0, .int 0, .int 0, .ref m_didRide_86, .ref m_toldRow_87, .ref m_passedBy_88, .ref m_total_89, .ref m_points_90, .ref m_used_91]))] := hD
      have hf_168 : (r_167 = 1 ∧ (1 ≤ ((xs (Int32.toNatClampNeg 1)).toInt) ∧ ((xs (Int32.toNatClampNeg 1)).toInt) ≤ 999 ∧ 0 ≤ ((xs (Int32.toNatClampNeg 2)).toInt) ∧ ((xs (Int32.toNatClampNeg 2)).toInt) ≤ 100)) ∨ (r_167 = 0 ∧ ¬ (1 ≤ ((xs (Int32.toNatClampNeg 1)).toInt) ∧ ((xs (Int32.toNatClampNeg 1)).toInt) ≤ 999 ∧ 0 ≤ ((xs (Int32.toNatClampNeg 2)).toInt) ∧ ((xs (Int32.toNatClampNeg 2)).toInt) ≤ 100)) := hf_168
      rcases hf_168 with ⟨rfl, hf_168⟩ | ⟨rfl, hf_168⟩
      ·
        refine lv_aload_n hx hb dL_law_296 rfl (lv_at hl 1 rfl) ?_
        refine lv_aload_n hx hb dL_law_297 rfl (lv_at hl 3 rfl) ?_
        refine lv_iload_n hx hb dL_law_298 rfl (lv_at hl 0 rfl) ?_
        refine lv_iconst (v := 1) hx hb dL_law_299 (by decide) ?_
        refine lv_iadd hx hb dL_law_300 ?_
        refine lv_topi (fun v_169 ev_169 => ?_)
        obtain rfl : v_169 = 1 := ev_169.trans (by decide)
        refine va_sld hx hb hX hbl hbA hS (zz_in (a := (1:Int)) (by decide) (by omega) (by omega)) dL_law_301 ?_
        refine lv_aload_n hx hb dL_law_302 rfl (lv_at hl 3 rfl) ?_
        refine lv_iload_n hx hb dL_law_303 rfl (lv_at hl 0 rfl) ?_
        refine lv_iconst (v := 2) hx hb dL_law_304 (by decide) ?_
        refine lv_iadd hx hb dL_law_305 ?_
        refine lv_topi (fun v_170 ev_170 => ?_)
        obtain rfl : v_170 = 2 := ev_170.trans (by decide)
        refine va_sld hx hb hX hbl hbA hS (zz_in (a := (2:Int)) (by decide) (by omega) (by omega)) dL_law_306 ?_
        have hPc := hP.sub (ws' := [(q_57, .inr (10, [.int 0, .int 1, .int 0, .int (-1), .int 0, .int 0, .int 0, .int 20, .ref m_teamOf_58, .ref m_steady_59, .ref m_full_60, .ref m_climb_61, .ref m_rises_62, .ref m_winds_63, .ref m_primeAt_64, .ref m_tape_65, .int 0, .int 0, .int 0, .ref m_clauses_66, .ref m_letter_67, .ref m_sign_68, .ref m_bar_69, .ref m_pace_70, .ref m_rides_71, .ref m_isOut_72, .ref m_metre_73, .ref m_charge_74, .ref m_held_75, .ref m_seconds_76, .ref m_heldOften_77, .ref m_work_78, .ref m_primeSeconds_79, .int 0, .long 0, .ref m_row_80, .int 0, .ref m_groupSize_81, .ref m_place_82, .ref m_stood_83, .ref m_history_84, .ref m_groupHistory_85, .int 0, .int 0, .int 0, .int 0, .ref m_didRide_86, .ref m_toldRow_87, .ref m_passedBy_88, .ref m_total_89, .ref m_points_90, .ref m_used_91]))]) [0] rfl
        have hDc := hD.sub (ws' := [(q_57, .inr (10, [.int 0, .int 1, .int 0, .int (-1), .int 0, .int 0, .int 0, .int 20, .ref m_teamOf_58, .ref m_steady_59, .ref m_full_60, .ref m_climb_61, .ref m_rises_62, .ref m_winds_63, .ref m_primeAt_64, .ref m_tape_65, .int 0, .int 0, .int 0, .ref m_clauses_66, .ref m_letter_67, .ref m_sign_68, .ref m_bar_69, .ref m_pace_70, .ref m_rides_71, .ref m_isOut_72, .ref m_metre_73, .ref m_charge_74, .ref m_held_75, .ref m_seconds_76, .ref m_heldOften_77, .ref m_work_78, .ref m_primeSeconds_79, .int 0, .long 0, .ref m_row_80, .int 0, .ref m_groupSize_81, .ref m_place_82, .ref m_stood_83, .ref m_history_84, .ref m_groupHistory_85, .int 0, .int 0, .int 0, .int 0, .ref m_didRide_86, .ref m_toldRow_87, .ref m_passedBy_88, .ref m_total_89, .ref m_points_90, .ref m_used_91]))]) [0] (by decide) rfl
        have hFc := va_free (wc := [(q_57, .inr (10, [.int 0, .int 1, .int 0, .int (-1), .int 0, .int 0, .int 0, .int 20, .ref m_teamOf_58, .ref m_steady_59, .ref m_full_60, .ref m_climb_61, .ref m_rises_62, .ref m_winds_63, .ref m_primeAt_64, .ref m_tape_65, .int 0, .int 0, .int 0, .ref m_clauses_66, .ref m_letter_67, .ref m_sign_68, .ref m_bar_69, .ref m_pace_70, .ref m_rides_71, .ref m_isOut_72, .ref m_metre_73, .ref m_charge_74, .ref m_held_75, .ref m_seconds_76, .ref m_heldOften_77, .ref m_work_78, .ref m_primeSeconds_79, .int 0, .long 0, .ref m_row_80, .int 0, .ref m_groupSize_81, .ref m_place_82, .ref m_stood_83, .ref m_history_84, .ref m_groupHistory_85, .int 0, .int 0, .int 0, .int 0, .ref m_didRide_86, .ref m_toldRow_87, .ref m_passedBy_88, .ref m_total_89, .ref m_points_90, .ref m_used_91]))]) hD hS hA [0] rfl
        refine va_calli (va_runV (As := [.int (xs (Int32.toNatClampNeg 1)), .int (xs (Int32.toNatClampNeg 2))]) (rest := [.int 1]) ⟨hx, hb, hml, hown, hts⟩ (c_X10_crash l dC dI cI cZ (H).size q_57 m_teamOf_58 m_steady_59 m_full_60 m_climb_61 m_rises_62 m_winds_63 m_primeAt_64 m_tape_65 m_clauses_66 m_letter_67 m_sign_68 m_bar_69 m_pace_70 m_rides_71 m_isOut_72 m_metre_73 m_charge_74 m_held_75 m_seconds_76 m_heldOften_77 m_work_78 m_primeSeconds_79 m_row_80 m_groupSize_81 m_place_82 m_stood_83 m_history_84 m_groupHistory_85 m_didRide_86 m_toldRow_87 m_passedBy_88 m_total_89 m_points_90 m_used_91 (xs (Int32.toNatClampNeg 1)) ((xs (Int32.toNatClampNeg 1)).toInt) rfl (xs (Int32.toNatClampNeg 2)) ((xs (Int32.toNatClampNeg 2)).toInt) rfl) ⟨callB_of 2 hts (zz_goodL zw_920) rfl rfl rfl hw7 hw37 (by decide +kernel) ⟨Nat.le_of_ble_eq_true rfl, Nat.le_of_ble_eq_true rfl⟩, hw38, hw39⟩ ⟨fun a U g mk q => by obtain ⟨q0, q1, qP, qK, qD⟩ := q; exact ⟨q0, q1, qP, va_K.moved (u := U) (U := U.calling g mk a) (Vm.Alike.refl U.vm) qK, qD⟩, va_recv hK hPc (ci := 10) (q0 := 0) rfl rfl, fun U hU hW => ⟨rfl, by rw [hU], by rw [hU]; exact hPc, va_K.moved hW.alike hK, hDc.weaken (fun _ _ _ _ => trivial)⟩⟩ rfl rfl hl.1 rfl (lv_room (Nat.le_of_ble_eq_true rfl)) dL_law_307 ⟨Nat.le_of_ble_eq_true rfl, Nat.le_of_ble_eq_true rfl⟩) hS (fun q _ h => hFc q h) hFc (fun r_171 u t H1 locs ht hvm hpost hB hz1 hk1 hS => ?_)
        subst hpost
        obtain ⟨hf_172, hP1, hK1, hD1⟩ := hB
        rw [ht] at hP1
        obtain ⟨hP, hD⟩ := va_join (wr := []) (w1 := []) hP hD [0] [] rfl rfl (by decide) (by decide) hk1 hFc hP1 hD1
        generalize H1 = H at hP hS ⊢
        have hP : va_P (dC, dI) vwCl [] H := hP
        have hD : va_D (fun q : Nat => s.heap.size ≤ q) [] := hD
        have hf_172 : (r_171 = 1 ∧ (1 ≤ ((xs (Int32.toNatClampNeg 1)).toInt) ∧ ((xs (Int32.toNatClampNeg 1)).toInt) ≤ 999 ∧ 0 ≤ ((xs (Int32.toNatClampNeg 2)).toInt) ∧ ((xs (Int32.toNatClampNeg 2)).toInt) ≤ 100)) ∨ (r_171 = 0 ∧ ¬ (1 ≤ ((xs (Int32.toNatClampNeg 1)).toInt) ∧ ((xs (Int32.toNatClampNeg 1)).toInt) ≤ 999 ∧ 0 ≤ ((xs (Int32.toNatClampNeg 2)).toInt) ∧ ((xs (Int32.toNatClampNeg 2)).toInt) ≤ 100)) := hf_172
        rcases hf_172 with ⟨rfl, hf_172⟩ | ⟨rfl, hf_172⟩
        ·
          refine lv_icmp_eq (tgt := 931) hx hb dL_law_310 (by decide) (fun c_173 => ?_) (fun c_173 => ?_)
          ·
            refine lv_iinc (v := 7) (lv' := [(3, .int 7), (2, .ref q_57), (1, .ref q_1), (0, .ref b)]) hx hb dL_law_931 hl (k := 0) rfl (by decide) (by decide) rfl (fun ls hl => ?_)
            refine lv_goto (tgt := 18) hx hb dL_law_934 (by decide) ?_
            refine lv_iload_n hx hb dL_law_18 rfl (lv_at hl 0 rfl) ?_
            refine lv_aload_n hx hb dL_law_19 rfl (lv_at hl 3 rfl) ?_
            refine va_slen hx hb hX hbl hbA hS dL_law_20 ?_
            refine lv_bipush (v := 7) hx hb dL_law_21 (by decide) ?_
            refine lv_isub hx hb dL_law_23 ?_
            refine lv_topi (fun v_174 ev_174 => ?_)
            have hv_174 : v_174.toInt = ((L : Int) - (7:Int)) := by rw [ev_174]; exact zz_subI (nI_toInt (by omega)) (by decide) (by omega) (by omega)
            refine lv_icmp_gt (tgt := 937) hx hb dL_law_24 (by decide) (fun c_175 => ?_) (fun c_175 => ?_)
            ·
              have c_175 : ((L : Int) - (7:Int)) < (7:Int) := zz_lt hv_174 (by decide) c_175
              refine lv_iconst (v := 1) hx hb dL_law_937 (by decide) ?_
              refine va_forget (fun q hq => hS.2.2 q hq) ?_
              refine W.widen (k := 91) (n := 20364) (Nat.le_of_ble_eq_true rfl) (Nat.le_of_ble_eq_true rfl) ?_
              exact lw_ret hx hb hr hlocks dL_law_938
            ·
              have c_175 : ¬ (((L : Int) - (7:Int)) < (7:Int)) := zz_ltn hv_174 (by decide) c_175
              exact absurd c_175 (by omega)
          ·
            exact absurd c_173 (by decide)
        ·
          exfalso
          omega
      ·
        refine lv_aload_n hx hb dL_law_296 rfl (lv_at hl 1 rfl) ?_
        refine lv_aload_n hx hb dL_law_297 rfl (lv_at hl 3 rfl) ?_
        refine lv_iload_n hx hb dL_law_298 rfl (lv_at hl 0 rfl) ?_
        refine lv_iconst (v := 1) hx hb dL_law_299 (by decide) ?_
        refine lv_iadd hx hb dL_law_300 ?_
        refine lv_topi (fun v_177 ev_177 => ?_)
        obtain rfl : v_177 = 1 := ev_177.trans (by decide)
        refine va_sld hx hb hX hbl hbA hS (zz_in (a := (1:Int)) (by decide) (by omega) (by omega)) dL_law_301 ?_
        refine lv_aload_n hx hb dL_law_302 rfl (lv_at hl 3 rfl) ?_
        refine lv_iload_n hx hb dL_law_303 rfl (lv_at hl 0 rfl) ?_
        refine lv_iconst (v := 2) hx hb dL_law_304 (by decide) ?_
        refine lv_iadd hx hb dL_law_305 ?_
        refine lv_topi (fun v_178 ev_178 => ?_)
        obtain rfl : v_178 = 2 := ev_178.trans (by decide)
        refine va_sld hx hb hX hbl hbA hS (zz_in (a := (2:Int)) (by decide) (by omega) (by omega)) dL_law_306 ?_
        have hPc := hP.sub (ws' := [(q_57, .inr (10, [.int 0, .int 1, .int 0, .int (-1), .int 0, .int 0, .int 0, .int 20, .ref m_teamOf_58, .ref m_steady_59, .ref m_full_60, .ref m_climb_61, .ref m_rises_62, .ref m_winds_63, .ref m_primeAt_64, .ref m_tape_65, .int 0, .int 0, .int 0, .ref m_clauses_66, .ref m_letter_67, .ref m_sign_68, .ref m_bar_69, .ref m_pace_70, .ref m_rides_71, .ref m_isOut_72, .ref m_metre_73, .ref m_charge_74, .ref m_held_75, .ref m_seconds_76, .ref m_heldOften_77, .ref m_work_78, .ref m_primeSeconds_79, .int 0, .long 0, .ref m_row_80, .int 0, .ref m_groupSize_81, .ref m_place_82, .ref m_stood_83, .ref m_history_84, .ref m_groupHistory_85, .int 0, .int 0, .int 0, .int 0, .ref m_didRide_86, .ref m_toldRow_87, .ref m_passedBy_88, .ref m_total_89, .ref m_points_90, .ref m_used_91]))]) [0] rfl
        have hDc := hD.sub (ws' := [(q_57, .inr (10, [.int 0, .int 1, .int 0, .int (-1), .int 0, .int 0, .int 0, .int 20, .ref m_teamOf_58, .ref m_steady_59, .ref m_full_60, .ref m_climb_61, .ref m_rises_62, .ref m_winds_63, .ref m_primeAt_64, .ref m_tape_65, .int 0, .int 0, .int 0, .ref m_clauses_66, .ref m_letter_67, .ref m_sign_68, .ref m_bar_69, .ref m_pace_70, .ref m_rides_71, .ref m_isOut_72, .ref m_metre_73, .ref m_charge_74, .ref m_held_75, .ref m_seconds_76, .ref m_heldOften_77, .ref m_work_78, .ref m_primeSeconds_79, .int 0, .long 0, .ref m_row_80, .int 0, .ref m_groupSize_81, .ref m_place_82, .ref m_stood_83, .ref m_history_84, .ref m_groupHistory_85, .int 0, .int 0, .int 0, .int 0, .ref m_didRide_86, .ref m_toldRow_87, .ref m_passedBy_88, .ref m_total_89, .ref m_points_90, .ref m_used_91]))]) [0] (by decide) rfl
        have hFc := va_free (wc := [(q_57, .inr (10, [.int 0, .int 1, .int 0, .int (-1), .int 0, .int 0, .int 0, .int 20, .ref m_teamOf_58, .ref m_steady_59, .ref m_full_60, .ref m_climb_61, .ref m_rises_62, .ref m_winds_63, .ref m_primeAt_64, .ref m_tape_65, .int 0, .int 0, .int 0, .ref m_clauses_66, .ref m_letter_67, .ref m_sign_68, .ref m_bar_69, .ref m_pace_70, .ref m_rides_71, .ref m_isOut_72, .ref m_metre_73, .ref m_charge_74, .ref m_held_75, .ref m_seconds_76, .ref m_heldOften_77, .ref m_work_78, .ref m_primeSeconds_79, .int 0, .long 0, .ref m_row_80, .int 0, .ref m_groupSize_81, .ref m_place_82, .ref m_stood_83, .ref m_history_84, .ref m_groupHistory_85, .int 0, .int 0, .int 0, .int 0, .ref m_didRide_86, .ref m_toldRow_87, .ref m_passedBy_88, .ref m_total_89, .ref m_points_90, .ref m_used_91]))]) hD hS hA [0] rfl
        refine va_calli (va_runV (As := [.int (xs (Int32.toNatClampNeg 1)), .int (xs (Int32.toNatClampNeg 2))]) (rest := [.int 0]) ⟨hx, hb, hml, hown, hts⟩ (c_X10_crash l dC dI cI cZ (H).size q_57 m_teamOf_58 m_steady_59 m_full_60 m_climb_61 m_rises_62 m_winds_63 m_primeAt_64 m_tape_65 m_clauses_66 m_letter_67 m_sign_68 m_bar_69 m_pace_70 m_rides_71 m_isOut_72 m_metre_73 m_charge_74 m_held_75 m_seconds_76 m_heldOften_77 m_work_78 m_primeSeconds_79 m_row_80 m_groupSize_81 m_place_82 m_stood_83 m_history_84 m_groupHistory_85 m_didRide_86 m_toldRow_87 m_passedBy_88 m_total_89 m_points_90 m_used_91 (xs (Int32.toNatClampNeg 1)) ((xs (Int32.toNatClampNeg 1)).toInt) rfl (xs (Int32.toNatClampNeg 2)) ((xs (Int32.toNatClampNeg 2)).toInt) rfl) ⟨callB_of 2 hts (zz_goodL zw_920) rfl rfl rfl hw7 hw37 (by decide +kernel) ⟨Nat.le_of_ble_eq_true rfl, Nat.le_of_ble_eq_true rfl⟩, hw38, hw39⟩ ⟨fun a U g mk q => by obtain ⟨q0, q1, qP, qK, qD⟩ := q; exact ⟨q0, q1, qP, va_K.moved (u := U) (U := U.calling g mk a) (Vm.Alike.refl U.vm) qK, qD⟩, va_recv hK hPc (ci := 10) (q0 := 0) rfl rfl, fun U hU hW => ⟨rfl, by rw [hU], by rw [hU]; exact hPc, va_K.moved hW.alike hK, hDc.weaken (fun _ _ _ _ => trivial)⟩⟩ rfl rfl hl.1 rfl (lv_room (Nat.le_of_ble_eq_true rfl)) dL_law_307 ⟨Nat.le_of_ble_eq_true rfl, Nat.le_of_ble_eq_true rfl⟩) hS (fun q _ h => hFc q h) hFc (fun r_179 u t H1 locs ht hvm hpost hB hz1 hk1 hS => ?_)
        subst hpost
        obtain ⟨hf_180, hP1, hK1, hD1⟩ := hB
        rw [ht] at hP1
        obtain ⟨hP, hD⟩ := va_join (wr := []) (w1 := []) hP hD [0] [] rfl rfl (by decide) (by decide) hk1 hFc hP1 hD1
        generalize H1 = H at hP hS ⊢
        have hP : va_P (dC, dI) vwCl [] H := hP
        have hD : va_D (fun q : Nat => s.heap.size ≤ q) [] := hD
        have hf_180 : (r_179 = 1 ∧ (1 ≤ ((xs (Int32.toNatClampNeg 1)).toInt) ∧ ((xs (Int32.toNatClampNeg 1)).toInt) ≤ 999 ∧ 0 ≤ ((xs (Int32.toNatClampNeg 2)).toInt) ∧ ((xs (Int32.toNatClampNeg 2)).toInt) ≤ 100)) ∨ (r_179 = 0 ∧ ¬ (1 ≤ ((xs (Int32.toNatClampNeg 1)).toInt) ∧ ((xs (Int32.toNatClampNeg 1)).toInt) ≤ 999 ∧ 0 ≤ ((xs (Int32.toNatClampNeg 2)).toInt) ∧ ((xs (Int32.toNatClampNeg 2)).toInt) ≤ 100)) := hf_180
        rcases hf_180 with ⟨rfl, hf_180⟩ | ⟨rfl, hf_180⟩
        ·
          exfalso
          omega
        ·
          refine lv_icmp_eq (tgt := 931) hx hb dL_law_310 (by decide) (fun c_182 => ?_) (fun c_182 => ?_)
          ·
            refine lv_iinc (v := 7) (lv' := [(3, .int 7), (2, .ref q_57), (1, .ref q_1), (0, .ref b)]) hx hb dL_law_931 hl (k := 0) rfl (by decide) (by decide) rfl (fun ls hl => ?_)
            refine lv_goto (tgt := 18) hx hb dL_law_934 (by decide) ?_
            refine lv_iload_n hx hb dL_law_18 rfl (lv_at hl 0 rfl) ?_
            refine lv_aload_n hx hb dL_law_19 rfl (lv_at hl 3 rfl) ?_
            refine va_slen hx hb hX hbl hbA hS dL_law_20 ?_
            refine lv_bipush (v := 7) hx hb dL_law_21 (by decide) ?_
            refine lv_isub hx hb dL_law_23 ?_
            refine lv_topi (fun v_183 ev_183 => ?_)
            have hv_183 : v_183.toInt = ((L : Int) - (7:Int)) := by rw [ev_183]; exact zz_subI (nI_toInt (by omega)) (by decide) (by omega) (by omega)
            refine lv_icmp_gt (tgt := 937) hx hb dL_law_24 (by decide) (fun c_184 => ?_) (fun c_184 => ?_)
            ·
              have c_184 : ((L : Int) - (7:Int)) < (7:Int) := zz_lt hv_183 (by decide) c_184
              refine lv_iconst (v := 1) hx hb dL_law_937 (by decide) ?_
              refine va_forget (fun q hq => hS.2.2 q hq) ?_
              refine W.widen (k := 91) (n := 20364) (Nat.le_of_ble_eq_true rfl) (Nat.le_of_ble_eq_true rfl) ?_
              exact lw_ret hx hb hr hlocks dL_law_938
            ·
              have c_184 : ¬ (((L : Int) - (7:Int)) < (7:Int)) := zz_ltn hv_183 (by decide) c_184
              exact absurd c_184 (by omega)
          ·
            exact absurd c_182 (by decide)
    ·
      refine lv_tableIn (tgt := 315) (off := 282) hx hb dL_law_33 (by rw [hs_95]; omega) (by rw [hs_95]; omega) (by rw [hs_95, q_96]; rfl) (by decide) ?_
      have hP := hP.sub (ws' := [(q_1, .inr (9, [.ref x_riders_2, .ref x_road_7, .ref x_tape_11, .ref x_book_13, .ref x_reader_19, .ref x_latest_20, .ref x_log_35, .ref x_trial_38, .ref x_stages_53, .int 0, .int 0, .int 0])), (x_tape_11, .inr (8, [.int 0, .ref x_ta_bytes_12])), (x_ta_bytes_12, .inl (cI, 100, .inl (fun _ => 0))), (q_57, .inr (10, [.int 0, .int 1, .int 0, .int (-1), .int 0, .int 0, .int 0, .int 20, .ref m_teamOf_58, .ref m_steady_59, .ref m_full_60, .ref m_climb_61, .ref m_rises_62, .ref m_winds_63, .ref m_primeAt_64, .ref m_tape_65, .int 0, .int 0, .int 0, .ref m_clauses_66, .ref m_letter_67, .ref m_sign_68, .ref m_bar_69, .ref m_pace_70, .ref m_rides_71, .ref m_isOut_72, .ref m_metre_73, .ref m_charge_74, .ref m_held_75, .ref m_seconds_76, .ref m_heldOften_77, .ref m_work_78, .ref m_primeSeconds_79, .int 0, .long 0, .ref m_row_80, .int 0, .ref m_groupSize_81, .ref m_place_82, .ref m_stood_83, .ref m_history_84, .ref m_groupHistory_85, .int 0, .int 0, .int 0, .int 0, .ref m_didRide_86, .ref m_toldRow_87, .ref m_passedBy_88, .ref m_total_89, .ref m_points_90, .ref m_used_91])), (m_tape_65, .inl (cI, 100, .inl (fun _ => 0)))]) [0, 10, 11, 56, 64] rfl
      have hD := hD.sub (ws' := [(q_1, .inr (9, [.ref x_riders_2, .ref x_road_7, .ref x_tape_11, .ref x_book_13, .ref x_reader_19, .ref x_latest_20, .ref x_log_35, .ref x_trial_38, .ref x_stages_53, .int 0, .int 0, .int 0])), (x_tape_11, .inr (8, [.int 0, .ref x_ta_bytes_12])), (x_ta_bytes_12, .inl (cI, 100, .inl (fun _ => 0))), (q_57, .inr (10, [.int 0, .int 1, .int 0, .int (-1), .int 0, .int 0, .int 0, .int 20, .ref m_teamOf_58, .ref m_steady_59, .ref m_full_60, .ref m_climb_61, .ref m_rises_62, .ref m_winds_63, .ref m_primeAt_64, .ref m_tape_65, .int 0, .int 0, .int 0, .ref m_clauses_66, .ref m_letter_67, .ref m_sign_68, .ref m_bar_69, .ref m_pace_70, .ref m_rides_71, .ref m_isOut_72, .ref m_metre_73, .ref m_charge_74, .ref m_held_75, .ref m_seconds_76, .ref m_heldOften_77, .ref m_work_78, .ref m_primeSeconds_79, .int 0, .long 0, .ref m_row_80, .int 0, .ref m_groupSize_81, .ref m_place_82, .ref m_stood_83, .ref m_history_84, .ref m_groupHistory_85, .int 0, .int 0, .int 0, .int 0, .ref m_didRide_86, .ref m_toldRow_87, .ref m_passedBy_88, .ref m_total_89, .ref m_points_90, .ref m_used_91])), (m_tape_65, .inl (cI, 100, .inl (fun _ => 0)))]) [0, 10, 11, 56, 64] (by decide) rfl
      refine lv_aload_n hx hb dL_law_315 rfl (lv_at hl 2 rfl) ?_
      refine lv_aload_n hx hb dL_law_316 rfl (lv_at hl 3 rfl) ?_
      refine lv_iload_n hx hb dL_law_317 rfl (lv_at hl 0 rfl) ?_
      refine lv_iconst (v := 1) hx hb dL_law_318 (by decide) ?_
      refine lv_iadd hx hb dL_law_319 ?_
      refine lv_topi (fun v_185 ev_185 => ?_)
      obtain rfl : v_185 = 1 := ev_185.trans (by decide)
      refine va_sld hx hb hX hbl hbA hS (zz_in (a := (1:Int)) (by decide) (by omega) (by omega)) dL_law_320 ?_
      refine lv_aload_n hx hb dL_law_321 rfl (lv_at hl 3 rfl) ?_
      refine lv_iload_n hx hb dL_law_322 rfl (lv_at hl 0 rfl) ?_
      refine lv_iconst (v := 2) hx hb dL_law_323 (by decide) ?_
      refine lv_iadd hx hb dL_law_324 ?_
      refine lv_topi (fun v_186 ev_186 => ?_)
      obtain rfl : v_186 = 2 := ev_186.trans (by decide)
      refine va_sld hx hb hX hbl hbA hS (zz_in (a := (2:Int)) (by decide) (by omega) (by omega)) dL_law_325 ?_
      refine lv_aload_n hx hb dL_law_326 rfl (lv_at hl 3 rfl) ?_
      refine lv_iload_n hx hb dL_law_327 rfl (lv_at hl 0 rfl) ?_
      refine lv_iconst (v := 3) hx hb dL_law_328 (by decide) ?_
      refine lv_iadd hx hb dL_law_329 ?_
      refine lv_topi (fun v_187 ev_187 => ?_)
      obtain rfl : v_187 = 3 := ev_187.trans (by decide)
      refine va_sld hx hb hX hbl hbA hS (zz_in (a := (3:Int)) (by decide) (by omega) (by omega)) dL_law_330 ?_
      refine lv_aload_n hx hb dL_law_331 rfl (lv_at hl 3 rfl) ?_
      refine lv_iload_n hx hb dL_law_332 rfl (lv_at hl 0 rfl) ?_
      refine lv_iconst (v := 4) hx hb dL_law_333 (by decide) ?_
      refine lv_iadd hx hb dL_law_334 ?_
      refine lv_topi (fun v_188 ev_188 => ?_)
      obtain rfl : v_188 = 4 := ev_188.trans (by decide)
      refine va_sld hx hb hX hbl hbA hS (zz_in (a := (4:Int)) (by decide) (by omega) (by omega)) dL_law_335 ?_
      refine lv_aload_n hx hb dL_law_336 rfl (lv_at hl 3 rfl) ?_
      refine lv_iload_n hx hb dL_law_337 rfl (lv_at hl 0 rfl) ?_
      refine lv_iconst (v := 5) hx hb dL_law_338 (by decide) ?_
      refine lv_iadd hx hb dL_law_339 ?_
      refine lv_topi (fun v_189 ev_189 => ?_)
      obtain rfl : v_189 = 5 := ev_189.trans (by decide)
      refine va_sld hx hb hX hbl hbA hS (zz_in (a := (5:Int)) (by decide) (by omega) (by omega)) dL_law_340 ?_
      have hPc := hP.sub (ws' := [(q_1, .inr (9, [.ref x_riders_2, .ref x_road_7, .ref x_tape_11, .ref x_book_13, .ref x_reader_19, .ref x_latest_20, .ref x_log_35, .ref x_trial_38, .ref x_stages_53, .int 0, .int 0, .int 0])), (x_tape_11, .inr (8, [.int 0, .ref x_ta_bytes_12])), (x_ta_bytes_12, .inl (cI, 100, .inl (fun _ => 0)))]) [0, 1, 2] rfl
      have hDc := hD.sub (ws' := [(q_1, .inr (9, [.ref x_riders_2, .ref x_road_7, .ref x_tape_11, .ref x_book_13, .ref x_reader_19, .ref x_latest_20, .ref x_log_35, .ref x_trial_38, .ref x_stages_53, .int 0, .int 0, .int 0])), (x_tape_11, .inr (8, [.int 0, .ref x_ta_bytes_12])), (x_ta_bytes_12, .inl (cI, 100, .inl (fun _ => 0)))]) [0, 1, 2] (by decide) rfl
      have hFc := va_free (wc := [(q_1, .inr (9, [.ref x_riders_2, .ref x_road_7, .ref x_tape_11, .ref x_book_13, .ref x_reader_19, .ref x_latest_20, .ref x_log_35, .ref x_trial_38, .ref x_stages_53, .int 0, .int 0, .int 0])), (x_tape_11, .inr (8, [.int 0, .ref x_ta_bytes_12])), (x_ta_bytes_12, .inl (cI, 100, .inl (fun _ => 0)))]) hD hS hA [0, 1, 2] rfl
      refine va_calli (va_runV (As := [.int (xs (Int32.toNatClampNeg 1)), .int (xs (Int32.toNatClampNeg 2)), .int (xs (Int32.toNatClampNeg 3)), .int (xs (Int32.toNatClampNeg 4)), .int (xs (Int32.toNatClampNeg 5))]) (rest := []) ⟨hx, hb, hml, hown, hts⟩ (c_X9_feed l dC dI cI cZ (H).size q_1 x_riders_2 x_road_7 x_tape_11 x_book_13 x_reader_19 x_latest_20 x_log_35 x_trial_38 x_stages_53 x_ta_bytes_12 (xs (Int32.toNatClampNeg 1)) ((xs (Int32.toNatClampNeg 1)).toInt) rfl (xs (Int32.toNatClampNeg 2)) ((xs (Int32.toNatClampNeg 2)).toInt) rfl (xs (Int32.toNatClampNeg 3)) ((xs (Int32.toNatClampNeg 3)).toInt) rfl (xs (Int32.toNatClampNeg 4)) ((xs (Int32.toNatClampNeg 4)).toInt) rfl (xs (Int32.toNatClampNeg 5)) ((xs (Int32.toNatClampNeg 5)).toInt) rfl) ⟨callB_of 5 hts (zz_goodL zw_425) rfl rfl rfl hw2 hw40 (by decide +kernel) ⟨Nat.le_of_ble_eq_true rfl, Nat.le_of_ble_eq_true rfl⟩, hw41, hw42⟩ ⟨fun a U g mk q => by obtain ⟨q0, q1, qP, qK, qD⟩ := q; exact ⟨q0, q1, qP, va_K.moved (u := U) (U := U.calling g mk a) (Vm.Alike.refl U.vm) qK, qD⟩, va_recv hK hPc (ci := 9) (q0 := 0) rfl rfl, fun U hU hW => ⟨rfl, by rw [hU], by rw [hU]; exact hPc, va_K.moved hW.alike hK, hDc.weaken (fun _ _ _ _ => trivial)⟩⟩ rfl rfl hl.1 rfl (lv_room (Nat.le_of_ble_eq_true rfl)) dL_law_341 ⟨Nat.le_of_ble_eq_true rfl, Nat.le_of_ble_eq_true rfl⟩) hS (fun q _ h => hFc q h) hFc (fun r_190 u t H1 locs ht hvm hpost hB hz1 hk1 hS => ?_)
      subst hpost
      obtain ⟨hf_191, hP1, hK1, hD1⟩ := hB
      rw [ht] at hP1
      obtain ⟨hP, hD⟩ := va_join (wr := [(q_57, .inr (10, [.int 0, .int 1, .int 0, .int (-1), .int 0, .int 0, .int 0, .int 20, .ref m_teamOf_58, .ref m_steady_59, .ref m_full_60, .ref m_climb_61, .ref m_rises_62, .ref m_winds_63, .ref m_primeAt_64, .ref m_tape_65, .int 0, .int 0, .int 0, .ref m_clauses_66, .ref m_letter_67, .ref m_sign_68, .ref m_bar_69, .ref m_pace_70, .ref m_rides_71, .ref m_isOut_72, .ref m_metre_73, .ref m_charge_74, .ref m_held_75, .ref m_seconds_76, .ref m_heldOften_77, .ref m_work_78, .ref m_primeSeconds_79, .int 0, .long 0, .ref m_row_80, .int 0, .ref m_groupSize_81, .ref m_place_82, .ref m_stood_83, .ref m_history_84, .ref m_groupHistory_85, .int 0, .int 0, .int 0, .int 0, .ref m_didRide_86, .ref m_toldRow_87, .ref m_passedBy_88, .ref m_total_89, .ref m_points_90, .ref m_used_91])), (m_tape_65, .inl (cI, 100, .inl (fun _ => 0)))]) (w1 := []) hP hD [0, 1, 2] [3, 4] rfl rfl (by decide) (by decide) hk1 hFc hP1 hD1
      generalize H1 = H at hP hS ⊢
      have hP : va_P (dC, dI) vwCl [(q_57, .inr (10, [.int 0, .int 1, .int 0, .int (-1), .int 0, .int 0, .int 0, .int 20, .ref m_teamOf_58, .ref m_steady_59, .ref m_full_60, .ref m_climb_61, .ref m_rises_62, .ref m_winds_63, .ref m_primeAt_64, .ref m_tape_65, .int 0, .int 0, .int 0, .ref m_clauses_66, .ref m_letter_67, .ref m_sign_68, .ref m_bar_69, .ref m_pace_70, .ref m_rides_71, .ref m_isOut_72, .ref m_metre_73, .ref m_charge_74, .ref m_held_75, .ref m_seconds_76, .ref m_heldOften_77, .ref m_work_78, .ref m_primeSeconds_79, .int 0, .long 0, .ref m_row_80, .int 0, .ref m_groupSize_81, .ref m_place_82, .ref m_stood_83, .ref m_history_84, .ref m_groupHistory_85, .int 0, .int 0, .int 0, .int 0, .ref m_didRide_86, .ref m_toldRow_87, .ref m_passedBy_88, .ref m_total_89, .ref m_points_90, .ref m_used_91])), (m_tape_65, .inl (cI, 100, .inl (fun _ => 0)))] H := hP
      have hD : va_D (fun q : Nat => s.heap.size ≤ q) [(q_57, .inr (10, [.int 0, .int 1, .int 0, .int (-1), .int 0, .int 0, .int 0, .int 20, .ref m_teamOf_58, .ref m_steady_59, .ref m_full_60, .ref m_climb_61, .ref m_rises_62, .ref m_winds_63, .ref m_primeAt_64, .ref m_tape_65, .int 0, .int 0, .int 0, .ref m_clauses_66, .ref m_letter_67, .ref m_sign_68, .ref m_bar_69, .ref m_pace_70, .ref m_rides_71, .ref m_isOut_72, .ref m_metre_73, .ref m_charge_74, .ref m_held_75, .ref m_seconds_76, .ref m_heldOften_77, .ref m_work_78, .ref m_primeSeconds_79, .int 0, .long 0, .ref m_row_80, .int 0, .ref m_groupSize_81, .ref m_place_82, .ref m_stood_83, .ref m_history_84, .ref m_groupHistory_85, .int 0, .int 0, .int 0, .int 0, .ref m_didRide_86, .ref m_toldRow_87, .ref m_passedBy_88, .ref m_total_89, .ref m_points_90, .ref m_used_91])), (m_tape_65, .inl (cI, 100, .inl (fun _ => 0)))] := hD
      have hf_191 : r_190.toInt = ((bc (xs (Int32.toNatClampNeg 1)) 4 : Nat) : Int) + ((bc (xs (Int32.toNatClampNeg 2)) 4 : Nat) : Int) + ((bc (xs (Int32.toNatClampNeg 3)) 4 : Nat) : Int) + ((bc (xs (Int32.toNatClampNeg 4)) 4 : Nat) : Int) + ((bc (xs (Int32.toNatClampNeg 5)) 4 : Nat) : Int) := hf_191
      refine lv_aload_n hx hb dL_law_344 rfl (lv_at hl 1 rfl) ?_
      refine lv_aload_n hx hb dL_law_345 rfl (lv_at hl 3 rfl) ?_
      refine lv_iload_n hx hb dL_law_346 rfl (lv_at hl 0 rfl) ?_
      refine lv_iconst (v := 1) hx hb dL_law_347 (by decide) ?_
      refine lv_iadd hx hb dL_law_348 ?_
      refine lv_topi (fun v_192 ev_192 => ?_)
      obtain rfl : v_192 = 1 := ev_192.trans (by decide)
      refine va_sld hx hb hX hbl hbA hS (zz_in (a := (1:Int)) (by decide) (by omega) (by omega)) dL_law_349 ?_
      refine lv_aload_n hx hb dL_law_350 rfl (lv_at hl 3 rfl) ?_
      refine lv_iload_n hx hb dL_law_351 rfl (lv_at hl 0 rfl) ?_
      refine lv_iconst (v := 2) hx hb dL_law_352 (by decide) ?_
      refine lv_iadd hx hb dL_law_353 ?_
      refine lv_topi (fun v_193 ev_193 => ?_)
      obtain rfl : v_193 = 2 := ev_193.trans (by decide)
      refine va_sld hx hb hX hbl hbA hS (zz_in (a := (2:Int)) (by decide) (by omega) (by omega)) dL_law_354 ?_
      refine lv_aload_n hx hb dL_law_355 rfl (lv_at hl 3 rfl) ?_
      refine lv_iload_n hx hb dL_law_356 rfl (lv_at hl 0 rfl) ?_
      refine lv_iconst (v := 3) hx hb dL_law_357 (by decide) ?_
      refine lv_iadd hx hb dL_law_358 ?_
      refine lv_topi (fun v_194 ev_194 => ?_)
      obtain rfl : v_194 = 3 := ev_194.trans (by decide)
      refine va_sld hx hb hX hbl hbA hS (zz_in (a := (3:Int)) (by decide) (by omega) (by omega)) dL_law_359 ?_
      refine lv_aload_n hx hb dL_law_360 rfl (lv_at hl 3 rfl) ?_
      refine lv_iload_n hx hb dL_law_361 rfl (lv_at hl 0 rfl) ?_
      refine lv_iconst (v := 4) hx hb dL_law_362 (by decide) ?_
      refine lv_iadd hx hb dL_law_363 ?_
      refine lv_topi (fun v_195 ev_195 => ?_)
      obtain rfl : v_195 = 4 := ev_195.trans (by decide)
      refine va_sld hx hb hX hbl hbA hS (zz_in (a := (4:Int)) (by decide) (by omega) (by omega)) dL_law_364 ?_
      refine lv_aload_n hx hb dL_law_365 rfl (lv_at hl 3 rfl) ?_
      refine lv_iload_n hx hb dL_law_366 rfl (lv_at hl 0 rfl) ?_
      refine lv_iconst (v := 5) hx hb dL_law_367 (by decide) ?_
      refine lv_iadd hx hb dL_law_368 ?_
      refine lv_topi (fun v_196 ev_196 => ?_)
      obtain rfl : v_196 = 5 := ev_196.trans (by decide)
      refine va_sld hx hb hX hbl hbA hS (zz_in (a := (5:Int)) (by decide) (by omega) (by omega)) dL_law_369 ?_
      have hPc := hP.sub (ws' := [(q_57, .inr (10, [.int 0, .int 1, .int 0, .int (-1), .int 0, .int 0, .int 0, .int 20, .ref m_teamOf_58, .ref m_steady_59, .ref m_full_60, .ref m_climb_61, .ref m_rises_62, .ref m_winds_63, .ref m_primeAt_64, .ref m_tape_65, .int 0, .int 0, .int 0, .ref m_clauses_66, .ref m_letter_67, .ref m_sign_68, .ref m_bar_69, .ref m_pace_70, .ref m_rides_71, .ref m_isOut_72, .ref m_metre_73, .ref m_charge_74, .ref m_held_75, .ref m_seconds_76, .ref m_heldOften_77, .ref m_work_78, .ref m_primeSeconds_79, .int 0, .long 0, .ref m_row_80, .int 0, .ref m_groupSize_81, .ref m_place_82, .ref m_stood_83, .ref m_history_84, .ref m_groupHistory_85, .int 0, .int 0, .int 0, .int 0, .ref m_didRide_86, .ref m_toldRow_87, .ref m_passedBy_88, .ref m_total_89, .ref m_points_90, .ref m_used_91])), (m_tape_65, .inl (cI, 100, .inl (fun _ => 0)))]) [0, 1] rfl
      have hDc := hD.sub (ws' := [(q_57, .inr (10, [.int 0, .int 1, .int 0, .int (-1), .int 0, .int 0, .int 0, .int 20, .ref m_teamOf_58, .ref m_steady_59, .ref m_full_60, .ref m_climb_61, .ref m_rises_62, .ref m_winds_63, .ref m_primeAt_64, .ref m_tape_65, .int 0, .int 0, .int 0, .ref m_clauses_66, .ref m_letter_67, .ref m_sign_68, .ref m_bar_69, .ref m_pace_70, .ref m_rides_71, .ref m_isOut_72, .ref m_metre_73, .ref m_charge_74, .ref m_held_75, .ref m_seconds_76, .ref m_heldOften_77, .ref m_work_78, .ref m_primeSeconds_79, .int 0, .long 0, .ref m_row_80, .int 0, .ref m_groupSize_81, .ref m_place_82, .ref m_stood_83, .ref m_history_84, .ref m_groupHistory_85, .int 0, .int 0, .int 0, .int 0, .ref m_didRide_86, .ref m_toldRow_87, .ref m_passedBy_88, .ref m_total_89, .ref m_points_90, .ref m_used_91])), (m_tape_65, .inl (cI, 100, .inl (fun _ => 0)))]) [0, 1] (by decide) rfl
      have hFc := va_free (wc := [(q_57, .inr (10, [.int 0, .int 1, .int 0, .int (-1), .int 0, .int 0, .int 0, .int 20, .ref m_teamOf_58, .ref m_steady_59, .ref m_full_60, .ref m_climb_61, .ref m_rises_62, .ref m_winds_63, .ref m_primeAt_64, .ref m_tape_65, .int 0, .int 0, .int 0, .ref m_clauses_66, .ref m_letter_67, .ref m_sign_68, .ref m_bar_69, .ref m_pace_70, .ref m_rides_71, .ref m_isOut_72, .ref m_metre_73, .ref m_charge_74, .ref m_held_75, .ref m_seconds_76, .ref m_heldOften_77, .ref m_work_78, .ref m_primeSeconds_79, .int 0, .long 0, .ref m_row_80, .int 0, .ref m_groupSize_81, .ref m_place_82, .ref m_stood_83, .ref m_history_84, .ref m_groupHistory_85, .int 0, .int 0, .int 0, .int 0, .ref m_didRide_86, .ref m_toldRow_87, .ref m_passedBy_88, .ref m_total_89, .ref m_points_90, .ref m_used_91])), (m_tape_65, .inl (cI, 100, .inl (fun _ => 0)))]) hD hS hA [0, 1] rfl
      refine va_calli (va_runV (As := [.int (xs (Int32.toNatClampNeg 1)), .int (xs (Int32.toNatClampNeg 2)), .int (xs (Int32.toNatClampNeg 3)), .int (xs (Int32.toNatClampNeg 4)), .int (xs (Int32.toNatClampNeg 5))]) (rest := [.int r_190]) ⟨hx, hb, hml, hown, hts⟩ (c_X10_feed l dC dI cI cZ (H).size q_57 m_teamOf_58 m_steady_59 m_full_60 m_climb_61 m_rises_62 m_winds_63 m_primeAt_64 m_tape_65 m_clauses_66 m_letter_67 m_sign_68 m_bar_69 m_pace_70 m_rides_71 m_isOut_72 m_metre_73 m_charge_74 m_held_75 m_seconds_76 m_heldOften_77 m_work_78 m_primeSeconds_79 m_row_80 m_groupSize_81 m_place_82 m_stood_83 m_history_84 m_groupHistory_85 m_didRide_86 m_toldRow_87 m_passedBy_88 m_total_89 m_points_90 m_used_91 (xs (Int32.toNatClampNeg 1)) ((xs (Int32.toNatClampNeg 1)).toInt) rfl (xs (Int32.toNatClampNeg 2)) ((xs (Int32.toNatClampNeg 2)).toInt) rfl (xs (Int32.toNatClampNeg 3)) ((xs (Int32.toNatClampNeg 3)).toInt) rfl (xs (Int32.toNatClampNeg 4)) ((xs (Int32.toNatClampNeg 4)).toInt) rfl (xs (Int32.toNatClampNeg 5)) ((xs (Int32.toNatClampNeg 5)).toInt) rfl) ⟨callB_of 5 hts (zz_goodL zw_924) rfl rfl rfl hw7 hw43 (by decide +kernel) ⟨Nat.le_of_ble_eq_true rfl, Nat.le_of_ble_eq_true rfl⟩, hw44, hw45⟩ ⟨fun a U g mk q => by obtain ⟨q0, q1, qP, qK, qD⟩ := q; exact ⟨q0, q1, qP, va_K.moved (u := U) (U := U.calling g mk a) (Vm.Alike.refl U.vm) qK, qD⟩, va_recv hK hPc (ci := 10) (q0 := 0) rfl rfl, fun U hU hW => ⟨rfl, by rw [hU], by rw [hU]; exact hPc, va_K.moved hW.alike hK, hDc.weaken (fun _ _ _ _ => trivial)⟩⟩ rfl rfl hl.1 rfl (lv_room (Nat.le_of_ble_eq_true rfl)) dL_law_370 ⟨Nat.le_of_ble_eq_true rfl, Nat.le_of_ble_eq_true rfl⟩) hS (fun q _ h => hFc q h) hFc (fun r_197 u t H1 locs ht hvm hpost hB hz1 hk1 hS => ?_)
      subst hpost
      obtain ⟨hf_198, hP1, hK1, hD1⟩ := hB
      rw [ht] at hP1
      obtain ⟨hP, hD⟩ := va_join (wr := []) (w1 := []) hP hD [0, 1] [] rfl rfl (by decide) (by decide) hk1 hFc hP1 hD1
      generalize H1 = H at hP hS ⊢
      have hP : va_P (dC, dI) vwCl [] H := hP
      have hD : va_D (fun q : Nat => s.heap.size ≤ q) [] := hD
      have hf_198 : r_197.toInt = ((bc (xs (Int32.toNatClampNeg 1)) 4 : Nat) : Int) + ((bc (xs (Int32.toNatClampNeg 2)) 4 : Nat) : Int) + ((bc (xs (Int32.toNatClampNeg 3)) 4 : Nat) : Int) + ((bc (xs (Int32.toNatClampNeg 4)) 4 : Nat) : Int) + ((bc (xs (Int32.toNatClampNeg 5)) 4 : Nat) : Int) := hf_198
      refine lv_icmp_eq (tgt := 931) hx hb dL_law_373 (by decide) (fun c_199 => ?_) (fun c_199 => ?_)
      ·
        have c_199 : (r_190).toInt = (r_197).toInt := zz_eq rfl rfl c_199
        refine lv_iinc (v := 7) (lv' := [(3, .int 7), (2, .ref q_57), (1, .ref q_1), (0, .ref b)]) hx hb dL_law_931 hl (k := 0) rfl (by decide) (by decide) rfl (fun ls hl => ?_)
        refine lv_goto (tgt := 18) hx hb dL_law_934 (by decide) ?_
        refine lv_iload_n hx hb dL_law_18 rfl (lv_at hl 0 rfl) ?_
        refine lv_aload_n hx hb dL_law_19 rfl (lv_at hl 3 rfl) ?_
        refine va_slen hx hb hX hbl hbA hS dL_law_20 ?_
        refine lv_bipush (v := 7) hx hb dL_law_21 (by decide) ?_
        refine lv_isub hx hb dL_law_23 ?_
        refine lv_topi (fun v_200 ev_200 => ?_)
        have hv_200 : v_200.toInt = ((L : Int) - (7:Int)) := by rw [ev_200]; exact zz_subI (nI_toInt (by omega)) (by decide) (by omega) (by omega)
        refine lv_icmp_gt (tgt := 937) hx hb dL_law_24 (by decide) (fun c_201 => ?_) (fun c_201 => ?_)
        ·
          have c_201 : ((L : Int) - (7:Int)) < (7:Int) := zz_lt hv_200 (by decide) c_201
          refine lv_iconst (v := 1) hx hb dL_law_937 (by decide) ?_
          refine va_forget (fun q hq => hS.2.2 q hq) ?_
          refine W.widen (k := 91) (n := 20364) (Nat.le_of_ble_eq_true rfl) (Nat.le_of_ble_eq_true rfl) ?_
          exact lw_ret hx hb hr hlocks dL_law_938
        ·
          have c_201 : ¬ (((L : Int) - (7:Int)) < (7:Int)) := zz_ltn hv_200 (by decide) c_201
          exact absurd c_201 (by omega)
      ·
        have c_199 : ¬ ((r_190).toInt = (r_197).toInt) := zz_eqn rfl rfl c_199
        exact absurd c_199 (by omega)
    ·
      refine lv_tableIn (tgt := 378) (off := 345) hx hb dL_law_33 (by rw [hs_95]; omega) (by rw [hs_95]; omega) (by rw [hs_95, q_96]; rfl) (by decide) ?_
      have hP := hP.sub (ws' := [(q_1, .inr (9, [.ref x_riders_2, .ref x_road_7, .ref x_tape_11, .ref x_book_13, .ref x_reader_19, .ref x_latest_20, .ref x_log_35, .ref x_trial_38, .ref x_stages_53, .int 0, .int 0, .int 0])), (x_tape_11, .inr (8, [.int 0, .ref x_ta_bytes_12])), (x_ta_bytes_12, .inl (cI, 100, .inl (fun _ => 0))), (q_57, .inr (10, [.int 0, .int 1, .int 0, .int (-1), .int 0, .int 0, .int 0, .int 20, .ref m_teamOf_58, .ref m_steady_59, .ref m_full_60, .ref m_climb_61, .ref m_rises_62, .ref m_winds_63, .ref m_primeAt_64, .ref m_tape_65, .int 0, .int 0, .int 0, .ref m_clauses_66, .ref m_letter_67, .ref m_sign_68, .ref m_bar_69, .ref m_pace_70, .ref m_rides_71, .ref m_isOut_72, .ref m_metre_73, .ref m_charge_74, .ref m_held_75, .ref m_seconds_76, .ref m_heldOften_77, .ref m_work_78, .ref m_primeSeconds_79, .int 0, .long 0, .ref m_row_80, .int 0, .ref m_groupSize_81, .ref m_place_82, .ref m_stood_83, .ref m_history_84, .ref m_groupHistory_85, .int 0, .int 0, .int 0, .int 0, .ref m_didRide_86, .ref m_toldRow_87, .ref m_passedBy_88, .ref m_total_89, .ref m_points_90, .ref m_used_91]))]) [0, 10, 11, 56] rfl
      have hD := hD.sub (ws' := [(q_1, .inr (9, [.ref x_riders_2, .ref x_road_7, .ref x_tape_11, .ref x_book_13, .ref x_reader_19, .ref x_latest_20, .ref x_log_35, .ref x_trial_38, .ref x_stages_53, .int 0, .int 0, .int 0])), (x_tape_11, .inr (8, [.int 0, .ref x_ta_bytes_12])), (x_ta_bytes_12, .inl (cI, 100, .inl (fun _ => 0))), (q_57, .inr (10, [.int 0, .int 1, .int 0, .int (-1), .int 0, .int 0, .int 0, .int 20, .ref m_teamOf_58, .ref m_steady_59, .ref m_full_60, .ref m_climb_61, .ref m_rises_62, .ref m_winds_63, .ref m_primeAt_64, .ref m_tape_65, .int 0, .int 0, .int 0, .ref m_clauses_66, .ref m_letter_67, .ref m_sign_68, .ref m_bar_69, .ref m_pace_70, .ref m_rides_71, .ref m_isOut_72, .ref m_metre_73, .ref m_charge_74, .ref m_held_75, .ref m_seconds_76, .ref m_heldOften_77, .ref m_work_78, .ref m_primeSeconds_79, .int 0, .long 0, .ref m_row_80, .int 0, .ref m_groupSize_81, .ref m_place_82, .ref m_stood_83, .ref m_history_84, .ref m_groupHistory_85, .int 0, .int 0, .int 0, .int 0, .ref m_didRide_86, .ref m_toldRow_87, .ref m_passedBy_88, .ref m_total_89, .ref m_points_90, .ref m_used_91]))]) [0, 10, 11, 56] (by decide) rfl
      refine lv_aload_n hx hb dL_law_378 rfl (lv_at hl 2 rfl) ?_
      refine lv_aload_n hx hb dL_law_379 rfl (lv_at hl 3 rfl) ?_
      refine lv_iload_n hx hb dL_law_380 rfl (lv_at hl 0 rfl) ?_
      refine lv_iconst (v := 1) hx hb dL_law_381 (by decide) ?_
      refine lv_iadd hx hb dL_law_382 ?_
      refine lv_topi (fun v_202 ev_202 => ?_)
      obtain rfl : v_202 = 1 := ev_202.trans (by decide)
      refine va_sld hx hb hX hbl hbA hS (zz_in (a := (1:Int)) (by decide) (by omega) (by omega)) dL_law_383 ?_
      have hPc := hP.sub (ws' := [(q_1, .inr (9, [.ref x_riders_2, .ref x_road_7, .ref x_tape_11, .ref x_book_13, .ref x_reader_19, .ref x_latest_20, .ref x_log_35, .ref x_trial_38, .ref x_stages_53, .int 0, .int 0, .int 0])), (x_tape_11, .inr (8, [.int 0, .ref x_ta_bytes_12])), (x_ta_bytes_12, .inl (cI, 100, .inl (fun _ => 0)))]) [0, 1, 2] rfl
      have hDc := hD.sub (ws' := [(q_1, .inr (9, [.ref x_riders_2, .ref x_road_7, .ref x_tape_11, .ref x_book_13, .ref x_reader_19, .ref x_latest_20, .ref x_log_35, .ref x_trial_38, .ref x_stages_53, .int 0, .int 0, .int 0])), (x_tape_11, .inr (8, [.int 0, .ref x_ta_bytes_12])), (x_ta_bytes_12, .inl (cI, 100, .inl (fun _ => 0)))]) [0, 1, 2] (by decide) rfl
      have hFc := va_free (wc := [(q_1, .inr (9, [.ref x_riders_2, .ref x_road_7, .ref x_tape_11, .ref x_book_13, .ref x_reader_19, .ref x_latest_20, .ref x_log_35, .ref x_trial_38, .ref x_stages_53, .int 0, .int 0, .int 0])), (x_tape_11, .inr (8, [.int 0, .ref x_ta_bytes_12])), (x_ta_bytes_12, .inl (cI, 100, .inl (fun _ => 0)))]) hD hS hA [0, 1, 2] rfl
      refine va_calli (va_runV (As := [.int (xs (Int32.toNatClampNeg 1))]) (rest := []) ⟨hx, hb, hml, hown, hts⟩ (c_X9_end l dC dI cI cZ (H).size q_1 x_riders_2 x_road_7 x_tape_11 x_book_13 x_reader_19 x_latest_20 x_log_35 x_trial_38 x_stages_53 x_ta_bytes_12 (xs (Int32.toNatClampNeg 1)) ((xs (Int32.toNatClampNeg 1)).toInt) rfl) ⟨callB_of 1 hts (zz_goodL zw_441) rfl rfl rfl hw2 hw46 (by decide +kernel) ⟨Nat.le_of_ble_eq_true rfl, Nat.le_of_ble_eq_true rfl⟩, hw47, hw48⟩ ⟨fun a U g mk q => by obtain ⟨q0, q1, qP, qK, qD⟩ := q; exact ⟨q0, q1, qP, va_K.moved (u := U) (U := U.calling g mk a) (Vm.Alike.refl U.vm) qK, qD⟩, va_recv hK hPc (ci := 9) (q0 := 0) rfl rfl, fun U hU hW => ⟨rfl, by rw [hU], by rw [hU]; exact hPc, va_K.moved hW.alike hK, hDc.weaken (fun _ _ _ _ => trivial)⟩⟩ rfl rfl hl.1 rfl (lv_room (Nat.le_of_ble_eq_true rfl)) dL_law_384 ⟨Nat.le_of_ble_eq_true rfl, Nat.le_of_ble_eq_true rfl⟩) hS (fun q _ h => hFc q h) hFc (fun r_203 u t H1 locs ht hvm hpost hB hz1 hk1 hS => ?_)
      subst hpost
      obtain ⟨hf_204, hP1, hK1, hD1⟩ := hB
      rw [ht] at hP1
      obtain ⟨hP, hD⟩ := va_join (wr := [(q_57, .inr (10, [.int 0, .int 1, .int 0, .int (-1), .int 0, .int 0, .int 0, .int 20, .ref m_teamOf_58, .ref m_steady_59, .ref m_full_60, .ref m_climb_61, .ref m_rises_62, .ref m_winds_63, .ref m_primeAt_64, .ref m_tape_65, .int 0, .int 0, .int 0, .ref m_clauses_66, .ref m_letter_67, .ref m_sign_68, .ref m_bar_69, .ref m_pace_70, .ref m_rides_71, .ref m_isOut_72, .ref m_metre_73, .ref m_charge_74, .ref m_held_75, .ref m_seconds_76, .ref m_heldOften_77, .ref m_work_78, .ref m_primeSeconds_79, .int 0, .long 0, .ref m_row_80, .int 0, .ref m_groupSize_81, .ref m_place_82, .ref m_stood_83, .ref m_history_84, .ref m_groupHistory_85, .int 0, .int 0, .int 0, .int 0, .ref m_didRide_86, .ref m_toldRow_87, .ref m_passedBy_88, .ref m_total_89, .ref m_points_90, .ref m_used_91]))]) (w1 := []) hP hD [0, 1, 2] [3] rfl rfl (by decide) (by decide) hk1 hFc hP1 hD1
      generalize H1 = H at hP hS ⊢
      have hP : va_P (dC, dI) vwCl [(q_57, .inr (10, [.int 0, .int 1, .int 0, .int (-1), .int 0, .int 0, .int 0, .int 20, .ref m_teamOf_58, .ref m_steady_59, .ref m_full_60, .ref m_climb_61, .ref m_rises_62, .ref m_winds_63, .ref m_primeAt_64, .ref m_tape_65, .int 0, .int 0, .int 0, .ref m_clauses_66, .ref m_letter_67, .ref m_sign_68, .ref m_bar_69, .ref m_pace_70, .ref m_rides_71, .ref m_isOut_72, .ref m_metre_73, .ref m_charge_74, .ref m_held_75, .ref m_seconds_76, .ref m_heldOften_77, .ref m_work_78, .ref m_primeSeconds_79, .int 0, .long 0, .ref m_row_80, .int 0, .ref m_groupSize_81, .ref m_place_82, .ref m_stood_83, .ref m_history_84, .ref m_groupHistory_85, .int 0, .int 0, .int 0, .int 0, .ref m_didRide_86, .ref m_toldRow_87, .ref m_passedBy_88, .ref m_total_89, .ref m_points_90, .ref m_used_91]))] H := hP
      have hD : va_D (fun q : Nat => s.heap.size ≤ q) [(q_57, .inr (10, [.int 0, .int 1, .int 0, .int (-1), .int 0, .int 0, .int 0, .int 20, .ref m_teamOf_58, .ref m_steady_59, .ref m_full_60, .ref m_climb_61, .ref m_rises_62, .ref m_winds_63, .ref m_primeAt_64, .ref m_tape_65, .int 0, .int 0, .int 0, .ref m_clauses_66, .ref m_letter_67, .ref m_sign_68, .ref m_bar_69, .ref m_pace_70, .ref m_rides_71, .ref m_isOut_72, .ref m_metre_73, .ref m_charge_74, .ref m_held_75, .ref m_seconds_76, .ref m_heldOften_77, .ref m_work_78, .ref m_primeSeconds_79, .int 0, .long 0, .ref m_row_80, .int 0, .ref m_groupSize_81, .ref m_place_82, .ref m_stood_83, .ref m_history_84, .ref m_groupHistory_85, .int 0, .int 0, .int 0, .int 0, .ref m_didRide_86, .ref m_toldRow_87, .ref m_passedBy_88, .ref m_total_89, .ref m_points_90, .ref m_used_91]))] := hD
      have hf_204 : (r_203 = 1 ∧ (((xs (Int32.toNatClampNeg 1)).toInt) = 0)) ∨ (r_203 = 0 ∧ ¬ (((xs (Int32.toNatClampNeg 1)).toInt) = 0)) := hf_204
      rcases hf_204 with ⟨rfl, hf_204⟩ | ⟨rfl, hf_204⟩
      ·
        refine lv_aload_n hx hb dL_law_387 rfl (lv_at hl 1 rfl) ?_
        refine lv_aload_n hx hb dL_law_388 rfl (lv_at hl 3 rfl) ?_
        refine lv_iload_n hx hb dL_law_389 rfl (lv_at hl 0 rfl) ?_
        refine lv_iconst (v := 1) hx hb dL_law_390 (by decide) ?_
        refine lv_iadd hx hb dL_law_391 ?_
        refine lv_topi (fun v_205 ev_205 => ?_)
        obtain rfl : v_205 = 1 := ev_205.trans (by decide)
        refine va_sld hx hb hX hbl hbA hS (zz_in (a := (1:Int)) (by decide) (by omega) (by omega)) dL_law_392 ?_
        have hPc := hP.sub (ws' := [(q_57, .inr (10, [.int 0, .int 1, .int 0, .int (-1), .int 0, .int 0, .int 0, .int 20, .ref m_teamOf_58, .ref m_steady_59, .ref m_full_60, .ref m_climb_61, .ref m_rises_62, .ref m_winds_63, .ref m_primeAt_64, .ref m_tape_65, .int 0, .int 0, .int 0, .ref m_clauses_66, .ref m_letter_67, .ref m_sign_68, .ref m_bar_69, .ref m_pace_70, .ref m_rides_71, .ref m_isOut_72, .ref m_metre_73, .ref m_charge_74, .ref m_held_75, .ref m_seconds_76, .ref m_heldOften_77, .ref m_work_78, .ref m_primeSeconds_79, .int 0, .long 0, .ref m_row_80, .int 0, .ref m_groupSize_81, .ref m_place_82, .ref m_stood_83, .ref m_history_84, .ref m_groupHistory_85, .int 0, .int 0, .int 0, .int 0, .ref m_didRide_86, .ref m_toldRow_87, .ref m_passedBy_88, .ref m_total_89, .ref m_points_90, .ref m_used_91]))]) [0] rfl
        have hDc := hD.sub (ws' := [(q_57, .inr (10, [.int 0, .int 1, .int 0, .int (-1), .int 0, .int 0, .int 0, .int 20, .ref m_teamOf_58, .ref m_steady_59, .ref m_full_60, .ref m_climb_61, .ref m_rises_62, .ref m_winds_63, .ref m_primeAt_64, .ref m_tape_65, .int 0, .int 0, .int 0, .ref m_clauses_66, .ref m_letter_67, .ref m_sign_68, .ref m_bar_69, .ref m_pace_70, .ref m_rides_71, .ref m_isOut_72, .ref m_metre_73, .ref m_charge_74, .ref m_held_75, .ref m_seconds_76, .ref m_heldOften_77, .ref m_work_78, .ref m_primeSeconds_79, .int 0, .long 0, .ref m_row_80, .int 0, .ref m_groupSize_81, .ref m_place_82, .ref m_stood_83, .ref m_history_84, .ref m_groupHistory_85, .int 0, .int 0, .int 0, .int 0, .ref m_didRide_86, .ref m_toldRow_87, .ref m_passedBy_88, .ref m_total_89, .ref m_points_90, .ref m_used_91]))]) [0] (by decide) rfl
        have hFc := va_free (wc := [(q_57, .inr (10, [.int 0, .int 1, .int 0, .int (-1), .int 0, .int 0, .int 0, .int 20, .ref m_teamOf_58, .ref m_steady_59, .ref m_full_60, .ref m_climb_61, .ref m_rises_62, .ref m_winds_63, .ref m_primeAt_64, .ref m_tape_65, .int 0, .int 0, .int 0, .ref m_clauses_66, .ref m_letter_67, .ref m_sign_68, .ref m_bar_69, .ref m_pace_70, .ref m_rides_71, .ref m_isOut_72, .ref m_metre_73, .ref m_charge_74, .ref m_held_75, .ref m_seconds_76, .ref m_heldOften_77, .ref m_work_78, .ref m_primeSeconds_79, .int 0, .long 0, .ref m_row_80, .int 0, .ref m_groupSize_81, .ref m_place_82, .ref m_stood_83, .ref m_history_84, .ref m_groupHistory_85, .int 0, .int 0, .int 0, .int 0, .ref m_didRide_86, .ref m_toldRow_87, .ref m_passedBy_88, .ref m_total_89, .ref m_points_90, .ref m_used_91]))]) hD hS hA [0] rfl
        refine va_calli (va_runV (As := [.int (xs (Int32.toNatClampNeg 1))]) (rest := [.int 1]) ⟨hx, hb, hml, hown, hts⟩ (c_X10_end l dC dI cI cZ (H).size q_57 m_teamOf_58 m_steady_59 m_full_60 m_climb_61 m_rises_62 m_winds_63 m_primeAt_64 m_tape_65 m_clauses_66 m_letter_67 m_sign_68 m_bar_69 m_pace_70 m_rides_71 m_isOut_72 m_metre_73 m_charge_74 m_held_75 m_seconds_76 m_heldOften_77 m_work_78 m_primeSeconds_79 m_row_80 m_groupSize_81 m_place_82 m_stood_83 m_history_84 m_groupHistory_85 m_didRide_86 m_toldRow_87 m_passedBy_88 m_total_89 m_points_90 m_used_91 (xs (Int32.toNatClampNeg 1)) ((xs (Int32.toNatClampNeg 1)).toInt) rfl) ⟨callB_of 1 hts (zz_goodL zw_931) rfl rfl rfl hw7 hw49 (by decide +kernel) ⟨Nat.le_of_ble_eq_true rfl, Nat.le_of_ble_eq_true rfl⟩, hw50, hw51⟩ ⟨fun a U g mk q => by obtain ⟨q0, q1, qP, qK, qD⟩ := q; exact ⟨q0, q1, qP, va_K.moved (u := U) (U := U.calling g mk a) (Vm.Alike.refl U.vm) qK, qD⟩, va_recv hK hPc (ci := 10) (q0 := 0) rfl rfl, fun U hU hW => ⟨rfl, by rw [hU], by rw [hU]; exact hPc, va_K.moved hW.alike hK, hDc.weaken (fun _ _ _ _ => trivial)⟩⟩ rfl rfl hl.1 rfl (lv_room (Nat.le_of_ble_eq_true rfl)) dL_law_393 ⟨Nat.le_of_ble_eq_true rfl, Nat.le_of_ble_eq_true rfl⟩) hS (fun q _ h => hFc q h) hFc (fun r_206 u t H1 locs ht hvm hpost hB hz1 hk1 hS => ?_)
        subst hpost
        obtain ⟨hf_207, hP1, hK1, hD1⟩ := hB
        rw [ht] at hP1
        obtain ⟨hP, hD⟩ := va_join (wr := []) (w1 := []) hP hD [0] [] rfl rfl (by decide) (by decide) hk1 hFc hP1 hD1
        generalize H1 = H at hP hS ⊢
        have hP : va_P (dC, dI) vwCl [] H := hP
        have hD : va_D (fun q : Nat => s.heap.size ≤ q) [] := hD
        have hf_207 : (r_206 = 1 ∧ (((xs (Int32.toNatClampNeg 1)).toInt) = 0)) ∨ (r_206 = 0 ∧ ¬ (((xs (Int32.toNatClampNeg 1)).toInt) = 0)) := hf_207
        rcases hf_207 with ⟨rfl, hf_207⟩ | ⟨rfl, hf_207⟩
        ·
          refine lv_icmp_eq (tgt := 931) hx hb dL_law_396 (by decide) (fun c_208 => ?_) (fun c_208 => ?_)
          ·
            refine lv_iinc (v := 7) (lv' := [(3, .int 7), (2, .ref q_57), (1, .ref q_1), (0, .ref b)]) hx hb dL_law_931 hl (k := 0) rfl (by decide) (by decide) rfl (fun ls hl => ?_)
            refine lv_goto (tgt := 18) hx hb dL_law_934 (by decide) ?_
            refine lv_iload_n hx hb dL_law_18 rfl (lv_at hl 0 rfl) ?_
            refine lv_aload_n hx hb dL_law_19 rfl (lv_at hl 3 rfl) ?_
            refine va_slen hx hb hX hbl hbA hS dL_law_20 ?_
            refine lv_bipush (v := 7) hx hb dL_law_21 (by decide) ?_
            refine lv_isub hx hb dL_law_23 ?_
            refine lv_topi (fun v_209 ev_209 => ?_)
            have hv_209 : v_209.toInt = ((L : Int) - (7:Int)) := by rw [ev_209]; exact zz_subI (nI_toInt (by omega)) (by decide) (by omega) (by omega)
            refine lv_icmp_gt (tgt := 937) hx hb dL_law_24 (by decide) (fun c_210 => ?_) (fun c_210 => ?_)
            ·
              have c_210 : ((L : Int) - (7:Int)) < (7:Int) := zz_lt hv_209 (by decide) c_210
              refine lv_iconst (v := 1) hx hb dL_law_937 (by decide) ?_
              refine va_forget (fun q hq => hS.2.2 q hq) ?_
              refine W.widen (k := 91) (n := 20364) (Nat.le_of_ble_eq_true rfl) (Nat.le_of_ble_eq_true rfl) ?_
              exact lw_ret hx hb hr hlocks dL_law_938
            ·
              have c_210 : ¬ (((L : Int) - (7:Int)) < (7:Int)) := zz_ltn hv_209 (by decide) c_210
              exact absurd c_210 (by omega)
          ·
            exact absurd c_208 (by decide)
        ·
          exfalso
          omega
      ·
        refine lv_aload_n hx hb dL_law_387 rfl (lv_at hl 1 rfl) ?_
        refine lv_aload_n hx hb dL_law_388 rfl (lv_at hl 3 rfl) ?_
        refine lv_iload_n hx hb dL_law_389 rfl (lv_at hl 0 rfl) ?_
        refine lv_iconst (v := 1) hx hb dL_law_390 (by decide) ?_
        refine lv_iadd hx hb dL_law_391 ?_
        refine lv_topi (fun v_212 ev_212 => ?_)
        obtain rfl : v_212 = 1 := ev_212.trans (by decide)
        refine va_sld hx hb hX hbl hbA hS (zz_in (a := (1:Int)) (by decide) (by omega) (by omega)) dL_law_392 ?_
        have hPc := hP.sub (ws' := [(q_57, .inr (10, [.int 0, .int 1, .int 0, .int (-1), .int 0, .int 0, .int 0, .int 20, .ref m_teamOf_58, .ref m_steady_59, .ref m_full_60, .ref m_climb_61, .ref m_rises_62, .ref m_winds_63, .ref m_primeAt_64, .ref m_tape_65, .int 0, .int 0, .int 0, .ref m_clauses_66, .ref m_letter_67, .ref m_sign_68, .ref m_bar_69, .ref m_pace_70, .ref m_rides_71, .ref m_isOut_72, .ref m_metre_73, .ref m_charge_74, .ref m_held_75, .ref m_seconds_76, .ref m_heldOften_77, .ref m_work_78, .ref m_primeSeconds_79, .int 0, .long 0, .ref m_row_80, .int 0, .ref m_groupSize_81, .ref m_place_82, .ref m_stood_83, .ref m_history_84, .ref m_groupHistory_85, .int 0, .int 0, .int 0, .int 0, .ref m_didRide_86, .ref m_toldRow_87, .ref m_passedBy_88, .ref m_total_89, .ref m_points_90, .ref m_used_91]))]) [0] rfl
        have hDc := hD.sub (ws' := [(q_57, .inr (10, [.int 0, .int 1, .int 0, .int (-1), .int 0, .int 0, .int 0, .int 20, .ref m_teamOf_58, .ref m_steady_59, .ref m_full_60, .ref m_climb_61, .ref m_rises_62, .ref m_winds_63, .ref m_primeAt_64, .ref m_tape_65, .int 0, .int 0, .int 0, .ref m_clauses_66, .ref m_letter_67, .ref m_sign_68, .ref m_bar_69, .ref m_pace_70, .ref m_rides_71, .ref m_isOut_72, .ref m_metre_73, .ref m_charge_74, .ref m_held_75, .ref m_seconds_76, .ref m_heldOften_77, .ref m_work_78, .ref m_primeSeconds_79, .int 0, .long 0, .ref m_row_80, .int 0, .ref m_groupSize_81, .ref m_place_82, .ref m_stood_83, .ref m_history_84, .ref m_groupHistory_85, .int 0, .int 0, .int 0, .int 0, .ref m_didRide_86, .ref m_toldRow_87, .ref m_passedBy_88, .ref m_total_89, .ref m_points_90, .ref m_used_91]))]) [0] (by decide) rfl
        have hFc := va_free (wc := [(q_57, .inr (10, [.int 0, .int 1, .int 0, .int (-1), .int 0, .int 0, .int 0, .int 20, .ref m_teamOf_58, .ref m_steady_59, .ref m_full_60, .ref m_climb_61, .ref m_rises_62, .ref m_winds_63, .ref m_primeAt_64, .ref m_tape_65, .int 0, .int 0, .int 0, .ref m_clauses_66, .ref m_letter_67, .ref m_sign_68, .ref m_bar_69, .ref m_pace_70, .ref m_rides_71, .ref m_isOut_72, .ref m_metre_73, .ref m_charge_74, .ref m_held_75, .ref m_seconds_76, .ref m_heldOften_77, .ref m_work_78, .ref m_primeSeconds_79, .int 0, .long 0, .ref m_row_80, .int 0, .ref m_groupSize_81, .ref m_place_82, .ref m_stood_83, .ref m_history_84, .ref m_groupHistory_85, .int 0, .int 0, .int 0, .int 0, .ref m_didRide_86, .ref m_toldRow_87, .ref m_passedBy_88, .ref m_total_89, .ref m_points_90, .ref m_used_91]))]) hD hS hA [0] rfl
        refine va_calli (va_runV (As := [.int (xs (Int32.toNatClampNeg 1))]) (rest := [.int 0]) ⟨hx, hb, hml, hown, hts⟩ (c_X10_end l dC dI cI cZ (H).size q_57 m_teamOf_58 m_steady_59 m_full_60 m_climb_61 m_rises_62 m_winds_63 m_primeAt_64 m_tape_65 m_clauses_66 m_letter_67 m_sign_68 m_bar_69 m_pace_70 m_rides_71 m_isOut_72 m_metre_73 m_charge_74 m_held_75 m_seconds_76 m_heldOften_77 m_work_78 m_primeSeconds_79 m_row_80 m_groupSize_81 m_place_82 m_stood_83 m_history_84 m_groupHistory_85 m_didRide_86 m_toldRow_87 m_passedBy_88 m_total_89 m_points_90 m_used_91 (xs (Int32.toNatClampNeg 1)) ((xs (Int32.toNatClampNeg 1)).toInt) rfl) ⟨callB_of 1 hts (zz_goodL zw_931) rfl rfl rfl hw7 hw49 (by decide +kernel) ⟨Nat.le_of_ble_eq_true rfl, Nat.le_of_ble_eq_true rfl⟩, hw50, hw51⟩ ⟨fun a U g mk q => by obtain ⟨q0, q1, qP, qK, qD⟩ := q; exact ⟨q0, q1, qP, va_K.moved (u := U) (U := U.calling g mk a) (Vm.Alike.refl U.vm) qK, qD⟩, va_recv hK hPc (ci := 10) (q0 := 0) rfl rfl, fun U hU hW => ⟨rfl, by rw [hU], by rw [hU]; exact hPc, va_K.moved hW.alike hK, hDc.weaken (fun _ _ _ _ => trivial)⟩⟩ rfl rfl hl.1 rfl (lv_room (Nat.le_of_ble_eq_true rfl)) dL_law_393 ⟨Nat.le_of_ble_eq_true rfl, Nat.le_of_ble_eq_true rfl⟩) hS (fun q _ h => hFc q h) hFc (fun r_213 u t H1 locs ht hvm hpost hB hz1 hk1 hS => ?_)
        subst hpost
        obtain ⟨hf_214, hP1, hK1, hD1⟩ := hB
        rw [ht] at hP1
        obtain ⟨hP, hD⟩ := va_join (wr := []) (w1 := []) hP hD [0] [] rfl rfl (by decide) (by decide) hk1 hFc hP1 hD1
        generalize H1 = H at hP hS ⊢
        have hP : va_P (dC, dI) vwCl [] H := hP
        have hD : va_D (fun q : Nat => s.heap.size ≤ q) [] := hD
        have hf_214 : (r_213 = 1 ∧ (((xs (Int32.toNatClampNeg 1)).toInt) = 0)) ∨ (r_213 = 0 ∧ ¬ (((xs (Int32.toNatClampNeg 1)).toInt) = 0)) := hf_214
        rcases hf_214 with ⟨rfl, hf_214⟩ | ⟨rfl, hf_214⟩
        ·
          exfalso
          omega
        ·
          refine lv_icmp_eq (tgt := 931) hx hb dL_law_396 (by decide) (fun c_216 => ?_) (fun c_216 => ?_)
          ·
            refine lv_iinc (v := 7) (lv' := [(3, .int 7), (2, .ref q_57), (1, .ref q_1), (0, .ref b)]) hx hb dL_law_931 hl (k := 0) rfl (by decide) (by decide) rfl (fun ls hl => ?_)
            refine lv_goto (tgt := 18) hx hb dL_law_934 (by decide) ?_
            refine lv_iload_n hx hb dL_law_18 rfl (lv_at hl 0 rfl) ?_
            refine lv_aload_n hx hb dL_law_19 rfl (lv_at hl 3 rfl) ?_
            refine va_slen hx hb hX hbl hbA hS dL_law_20 ?_
            refine lv_bipush (v := 7) hx hb dL_law_21 (by decide) ?_
            refine lv_isub hx hb dL_law_23 ?_
            refine lv_topi (fun v_217 ev_217 => ?_)
            have hv_217 : v_217.toInt = ((L : Int) - (7:Int)) := by rw [ev_217]; exact zz_subI (nI_toInt (by omega)) (by decide) (by omega) (by omega)
            refine lv_icmp_gt (tgt := 937) hx hb dL_law_24 (by decide) (fun c_218 => ?_) (fun c_218 => ?_)
            ·
              have c_218 : ((L : Int) - (7:Int)) < (7:Int) := zz_lt hv_217 (by decide) c_218
              refine lv_iconst (v := 1) hx hb dL_law_937 (by decide) ?_
              refine va_forget (fun q hq => hS.2.2 q hq) ?_
              refine W.widen (k := 91) (n := 20364) (Nat.le_of_ble_eq_true rfl) (Nat.le_of_ble_eq_true rfl) ?_
              exact lw_ret hx hb hr hlocks dL_law_938
            ·
              have c_218 : ¬ (((L : Int) - (7:Int)) < (7:Int)) := zz_ltn hv_217 (by decide) c_218
              exact absurd c_218 (by omega)
          ·
            exact absurd c_216 (by decide)
    ·
      refine lv_tableIn (tgt := 401) (off := 368) hx hb dL_law_33 (by rw [hs_95]; omega) (by rw [hs_95]; omega) (by rw [hs_95, q_96]; rfl) (by decide) ?_
      have hP := hP.sub (ws' := [(q_1, .inr (9, [.ref x_riders_2, .ref x_road_7, .ref x_tape_11, .ref x_book_13, .ref x_reader_19, .ref x_latest_20, .ref x_log_35, .ref x_trial_38, .ref x_stages_53, .int 0, .int 0, .int 0])), (x_tape_11, .inr (8, [.int 0, .ref x_ta_bytes_12])), (x_ta_bytes_12, .inl (cI, 100, .inl (fun _ => 0))), (x_book_13, .inr (1, [.ref x_bo_clauses_14, .ref x_bo_asked_15, .ref x_bo_signs_16, .ref x_bo_numbers_17, .ref x_bo_paces_18])), (x_bo_clauses_14, .inl (cI, 10, .inl (fun _ => 0))), (x_bo_asked_15, .inl (cI, 160, .inl (fun _ => 0))), (x_bo_signs_16, .inl (cI, 160, .inl (fun _ => 0))), (x_bo_numbers_17, .inl (cI, 160, .inl (fun _ => 0))), (x_bo_paces_18, .inl (cI, 160, .inl (fun _ => 0))), (x_reader_19, .inr (2, [.int 0, .int 0, .int 0, .int 0, .int 0])), (q_57, .inr (10, [.int 0, .int 1, .int 0, .int (-1), .int 0, .int 0, .int 0, .int 20, .ref m_teamOf_58, .ref m_steady_59, .ref m_full_60, .ref m_climb_61, .ref m_rises_62, .ref m_winds_63, .ref m_primeAt_64, .ref m_tape_65, .int 0, .int 0, .int 0, .ref m_clauses_66, .ref m_letter_67, .ref m_sign_68, .ref m_bar_69, .ref m_pace_70, .ref m_rides_71, .ref m_isOut_72, .ref m_metre_73, .ref m_charge_74, .ref m_held_75, .ref m_seconds_76, .ref m_heldOften_77, .ref m_work_78, .ref m_primeSeconds_79, .int 0, .long 0, .ref m_row_80, .int 0, .ref m_groupSize_81, .ref m_place_82, .ref m_stood_83, .ref m_history_84, .ref m_groupHistory_85, .int 0, .int 0, .int 0, .int 0, .ref m_didRide_86, .ref m_toldRow_87, .ref m_passedBy_88, .ref m_total_89, .ref m_points_90, .ref m_used_91]))]) [0, 10, 11, 12, 13, 14, 15, 16, 17, 18, 56] rfl
      have hD := hD.sub (ws' := [(q_1, .inr (9, [.ref x_riders_2, .ref x_road_7, .ref x_tape_11, .ref x_book_13, .ref x_reader_19, .ref x_latest_20, .ref x_log_35, .ref x_trial_38, .ref x_stages_53, .int 0, .int 0, .int 0])), (x_tape_11, .inr (8, [.int 0, .ref x_ta_bytes_12])), (x_ta_bytes_12, .inl (cI, 100, .inl (fun _ => 0))), (x_book_13, .inr (1, [.ref x_bo_clauses_14, .ref x_bo_asked_15, .ref x_bo_signs_16, .ref x_bo_numbers_17, .ref x_bo_paces_18])), (x_bo_clauses_14, .inl (cI, 10, .inl (fun _ => 0))), (x_bo_asked_15, .inl (cI, 160, .inl (fun _ => 0))), (x_bo_signs_16, .inl (cI, 160, .inl (fun _ => 0))), (x_bo_numbers_17, .inl (cI, 160, .inl (fun _ => 0))), (x_bo_paces_18, .inl (cI, 160, .inl (fun _ => 0))), (x_reader_19, .inr (2, [.int 0, .int 0, .int 0, .int 0, .int 0])), (q_57, .inr (10, [.int 0, .int 1, .int 0, .int (-1), .int 0, .int 0, .int 0, .int 20, .ref m_teamOf_58, .ref m_steady_59, .ref m_full_60, .ref m_climb_61, .ref m_rises_62, .ref m_winds_63, .ref m_primeAt_64, .ref m_tape_65, .int 0, .int 0, .int 0, .ref m_clauses_66, .ref m_letter_67, .ref m_sign_68, .ref m_bar_69, .ref m_pace_70, .ref m_rides_71, .ref m_isOut_72, .ref m_metre_73, .ref m_charge_74, .ref m_held_75, .ref m_seconds_76, .ref m_heldOften_77, .ref m_work_78, .ref m_primeSeconds_79, .int 0, .long 0, .ref m_row_80, .int 0, .ref m_groupSize_81, .ref m_place_82, .ref m_stood_83, .ref m_history_84, .ref m_groupHistory_85, .int 0, .int 0, .int 0, .int 0, .ref m_didRide_86, .ref m_toldRow_87, .ref m_passedBy_88, .ref m_total_89, .ref m_points_90, .ref m_used_91]))]) [0, 10, 11, 12, 13, 14, 15, 16, 17, 18, 56] (by decide) rfl
      refine lv_aload_n hx hb dL_law_401 rfl (lv_at hl 2 rfl) ?_
      have hPc := hP.sub (ws' := [(q_1, .inr (9, [.ref x_riders_2, .ref x_road_7, .ref x_tape_11, .ref x_book_13, .ref x_reader_19, .ref x_latest_20, .ref x_log_35, .ref x_trial_38, .ref x_stages_53, .int 0, .int 0, .int 0])), (x_tape_11, .inr (8, [.int 0, .ref x_ta_bytes_12])), (x_ta_bytes_12, .inl (cI, 100, .inl (fun _ => 0))), (x_book_13, .inr (1, [.ref x_bo_clauses_14, .ref x_bo_asked_15, .ref x_bo_signs_16, .ref x_bo_numbers_17, .ref x_bo_paces_18])), (x_bo_clauses_14, .inl (cI, 10, .inl (fun _ => 0))), (x_bo_asked_15, .inl (cI, 160, .inl (fun _ => 0))), (x_bo_signs_16, .inl (cI, 160, .inl (fun _ => 0))), (x_bo_numbers_17, .inl (cI, 160, .inl (fun _ => 0))), (x_bo_paces_18, .inl (cI, 160, .inl (fun _ => 0))), (x_reader_19, .inr (2, [.int 0, .int 0, .int 0, .int 0, .int 0]))]) [0, 1, 2, 3, 4, 5, 6, 7, 8, 9] rfl
      have hDc := hD.sub (ws' := [(q_1, .inr (9, [.ref x_riders_2, .ref x_road_7, .ref x_tape_11, .ref x_book_13, .ref x_reader_19, .ref x_latest_20, .ref x_log_35, .ref x_trial_38, .ref x_stages_53, .int 0, .int 0, .int 0])), (x_tape_11, .inr (8, [.int 0, .ref x_ta_bytes_12])), (x_ta_bytes_12, .inl (cI, 100, .inl (fun _ => 0))), (x_book_13, .inr (1, [.ref x_bo_clauses_14, .ref x_bo_asked_15, .ref x_bo_signs_16, .ref x_bo_numbers_17, .ref x_bo_paces_18])), (x_bo_clauses_14, .inl (cI, 10, .inl (fun _ => 0))), (x_bo_asked_15, .inl (cI, 160, .inl (fun _ => 0))), (x_bo_signs_16, .inl (cI, 160, .inl (fun _ => 0))), (x_bo_numbers_17, .inl (cI, 160, .inl (fun _ => 0))), (x_bo_paces_18, .inl (cI, 160, .inl (fun _ => 0))), (x_reader_19, .inr (2, [.int 0, .int 0, .int 0, .int 0, .int 0]))]) [0, 1, 2, 3, 4, 5, 6, 7, 8, 9] (by decide) rfl
      have hFc := va_free (wc := [(q_1, .inr (9, [.ref x_riders_2, .ref x_road_7, .ref x_tape_11, .ref x_book_13, .ref x_reader_19, .ref x_latest_20, .ref x_log_35, .ref x_trial_38, .ref x_stages_53, .int 0, .int 0, .int 0])), (x_tape_11, .inr (8, [.int 0, .ref x_ta_bytes_12])), (x_ta_bytes_12, .inl (cI, 100, .inl (fun _ => 0))), (x_book_13, .inr (1, [.ref x_bo_clauses_14, .ref x_bo_asked_15, .ref x_bo_signs_16, .ref x_bo_numbers_17, .ref x_bo_paces_18])), (x_bo_clauses_14, .inl (cI, 10, .inl (fun _ => 0))), (x_bo_asked_15, .inl (cI, 160, .inl (fun _ => 0))), (x_bo_signs_16, .inl (cI, 160, .inl (fun _ => 0))), (x_bo_numbers_17, .inl (cI, 160, .inl (fun _ => 0))), (x_bo_paces_18, .inl (cI, 160, .inl (fun _ => 0))), (x_reader_19, .inr (2, [.int 0, .int 0, .int 0, .int 0, .int 0]))]) hD hS hA [0, 1, 2, 3, 4, 5, 6, 7, 8, 9] rfl
      refine va_calli (va_runV (As := []) (rest := []) ⟨hx, hb, hml, hown, hts⟩ (c_X9_fault l dC dI cI cZ (H).size q_1 x_riders_2 x_road_7 x_tape_11 x_book_13 x_reader_19 x_latest_20 x_log_35 x_trial_38 x_stages_53 x_ta_bytes_12 x_bo_clauses_14 x_bo_asked_15 x_bo_signs_16 x_bo_numbers_17 x_bo_paces_18) ⟨callB_of 0 hts (zz_goodL zw_445) rfl rfl rfl hw2 hw52 (by decide +kernel) ⟨Nat.le_of_ble_eq_true rfl, Nat.le_of_ble_eq_true rfl⟩, hw53, hw54⟩ ⟨fun a U g mk q => by obtain ⟨q0, q1, qP, qK, qD⟩ := q; exact ⟨q0, q1, qP, va_K.moved (u := U) (U := U.calling g mk a) (Vm.Alike.refl U.vm) qK, qD⟩, va_recv hK hPc (ci := 9) (q0 := 0) rfl rfl, fun U hU hW => ⟨rfl, by rw [hU], by rw [hU]; exact hPc, va_K.moved hW.alike hK, hDc.weaken (fun _ _ _ _ => trivial)⟩⟩ rfl rfl hl.1 rfl (lv_room (Nat.le_of_ble_eq_true rfl)) dL_law_402 ⟨Nat.le_of_ble_eq_true rfl, Nat.le_of_ble_eq_true rfl⟩) hS (fun q _ h => hFc q h) hFc (fun r_219 u t H1 locs ht hvm hpost hB hz1 hk1 hS => ?_)
      subst hpost
      obtain ⟨hf_220, hP1, hK1, hD1⟩ := hB
      rw [ht] at hP1
      obtain ⟨hP, hD⟩ := va_join (wr := [(q_57, .inr (10, [.int 0, .int 1, .int 0, .int (-1), .int 0, .int 0, .int 0, .int 20, .ref m_teamOf_58, .ref m_steady_59, .ref m_full_60, .ref m_climb_61, .ref m_rises_62, .ref m_winds_63, .ref m_primeAt_64, .ref m_tape_65, .int 0, .int 0, .int 0, .ref m_clauses_66, .ref m_letter_67, .ref m_sign_68, .ref m_bar_69, .ref m_pace_70, .ref m_rides_71, .ref m_isOut_72, .ref m_metre_73, .ref m_charge_74, .ref m_held_75, .ref m_seconds_76, .ref m_heldOften_77, .ref m_work_78, .ref m_primeSeconds_79, .int 0, .long 0, .ref m_row_80, .int 0, .ref m_groupSize_81, .ref m_place_82, .ref m_stood_83, .ref m_history_84, .ref m_groupHistory_85, .int 0, .int 0, .int 0, .int 0, .ref m_didRide_86, .ref m_toldRow_87, .ref m_passedBy_88, .ref m_total_89, .ref m_points_90, .ref m_used_91]))]) (w1 := []) hP hD [0, 1, 2, 3, 4, 5, 6, 7, 8, 9] [10] rfl rfl (by decide) (by decide) hk1 hFc hP1 hD1
      generalize H1 = H at hP hS ⊢
      have hP : va_P (dC, dI) vwCl [(q_57, .inr (10, [.int 0, .int 1, .int 0, .int (-1), .int 0, .int 0, .int 0, .int 20, .ref m_teamOf_58, .ref m_steady_59, .ref m_full_60, .ref m_climb_61, .ref m_rises_62, .ref m_winds_63, .ref m_primeAt_64, .ref m_tape_65, .int 0, .int 0, .int 0, .ref m_clauses_66, .ref m_letter_67, .ref m_sign_68, .ref m_bar_69, .ref m_pace_70, .ref m_rides_71, .ref m_isOut_72, .ref m_metre_73, .ref m_charge_74, .ref m_held_75, .ref m_seconds_76, .ref m_heldOften_77, .ref m_work_78, .ref m_primeSeconds_79, .int 0, .long 0, .ref m_row_80, .int 0, .ref m_groupSize_81, .ref m_place_82, .ref m_stood_83, .ref m_history_84, .ref m_groupHistory_85, .int 0, .int 0, .int 0, .int 0, .ref m_didRide_86, .ref m_toldRow_87, .ref m_passedBy_88, .ref m_total_89, .ref m_points_90, .ref m_used_91]))] H := hP
      have hD : va_D (fun q : Nat => s.heap.size ≤ q) [(q_57, .inr (10, [.int 0, .int 1, .int 0, .int (-1), .int 0, .int 0, .int 0, .int 20, .ref m_teamOf_58, .ref m_steady_59, .ref m_full_60, .ref m_climb_61, .ref m_rises_62, .ref m_winds_63, .ref m_primeAt_64, .ref m_tape_65, .int 0, .int 0, .int 0, .ref m_clauses_66, .ref m_letter_67, .ref m_sign_68, .ref m_bar_69, .ref m_pace_70, .ref m_rides_71, .ref m_isOut_72, .ref m_metre_73, .ref m_charge_74, .ref m_held_75, .ref m_seconds_76, .ref m_heldOften_77, .ref m_work_78, .ref m_primeSeconds_79, .int 0, .long 0, .ref m_row_80, .int 0, .ref m_groupSize_81, .ref m_place_82, .ref m_stood_83, .ref m_history_84, .ref m_groupHistory_85, .int 0, .int 0, .int 0, .int 0, .ref m_didRide_86, .ref m_toldRow_87, .ref m_passedBy_88, .ref m_total_89, .ref m_points_90, .ref m_used_91]))] := hD
      have hf_220 : r_219.toInt = -1 := hf_220
      obtain rfl : r_219 = (-1) := Int32.toInt_inj.mp (hf_220.trans (by decide))
      refine lv_aload_n hx hb dL_law_405 rfl (lv_at hl 1 rfl) ?_
      have hPc := hP.sub (ws' := [(q_57, .inr (10, [.int 0, .int 1, .int 0, .int (-1), .int 0, .int 0, .int 0, .int 20, .ref m_teamOf_58, .ref m_steady_59, .ref m_full_60, .ref m_climb_61, .ref m_rises_62, .ref m_winds_63, .ref m_primeAt_64, .ref m_tape_65, .int 0, .int 0, .int 0, .ref m_clauses_66, .ref m_letter_67, .ref m_sign_68, .ref m_bar_69, .ref m_pace_70, .ref m_rides_71, .ref m_isOut_72, .ref m_metre_73, .ref m_charge_74, .ref m_held_75, .ref m_seconds_76, .ref m_heldOften_77, .ref m_work_78, .ref m_primeSeconds_79, .int 0, .long 0, .ref m_row_80, .int 0, .ref m_groupSize_81, .ref m_place_82, .ref m_stood_83, .ref m_history_84, .ref m_groupHistory_85, .int 0, .int 0, .int 0, .int 0, .ref m_didRide_86, .ref m_toldRow_87, .ref m_passedBy_88, .ref m_total_89, .ref m_points_90, .ref m_used_91]))]) [0] rfl
      have hDc := hD.sub (ws' := [(q_57, .inr (10, [.int 0, .int 1, .int 0, .int (-1), .int 0, .int 0, .int 0, .int 20, .ref m_teamOf_58, .ref m_steady_59, .ref m_full_60, .ref m_climb_61, .ref m_rises_62, .ref m_winds_63, .ref m_primeAt_64, .ref m_tape_65, .int 0, .int 0, .int 0, .ref m_clauses_66, .ref m_letter_67, .ref m_sign_68, .ref m_bar_69, .ref m_pace_70, .ref m_rides_71, .ref m_isOut_72, .ref m_metre_73, .ref m_charge_74, .ref m_held_75, .ref m_seconds_76, .ref m_heldOften_77, .ref m_work_78, .ref m_primeSeconds_79, .int 0, .long 0, .ref m_row_80, .int 0, .ref m_groupSize_81, .ref m_place_82, .ref m_stood_83, .ref m_history_84, .ref m_groupHistory_85, .int 0, .int 0, .int 0, .int 0, .ref m_didRide_86, .ref m_toldRow_87, .ref m_passedBy_88, .ref m_total_89, .ref m_points_90, .ref m_used_91]))]) [0] (by decide) rfl
      have hFc := va_free (wc := [(q_57, .inr (10, [.int 0, .int 1, .int 0, .int (-1), .int 0, .int 0, .int 0, .int 20, .ref m_teamOf_58, .ref m_steady_59, .ref m_full_60, .ref m_climb_61, .ref m_rises_62, .ref m_winds_63, .ref m_primeAt_64, .ref m_tape_65, .int 0, .int 0, .int 0, .ref m_clauses_66, .ref m_letter_67, .ref m_sign_68, .ref m_bar_69, .ref m_pace_70, .ref m_rides_71, .ref m_isOut_72, .ref m_metre_73, .ref m_charge_74, .ref m_held_75, .ref m_seconds_76, .ref m_heldOften_77, .ref m_work_78, .ref m_primeSeconds_79, .int 0, .long 0, .ref m_row_80, .int 0, .ref m_groupSize_81, .ref m_place_82, .ref m_stood_83, .ref m_history_84, .ref m_groupHistory_85, .int 0, .int 0, .int 0, .int 0, .ref m_didRide_86, .ref m_toldRow_87, .ref m_passedBy_88, .ref m_total_89, .ref m_points_90, .ref m_used_91]))]) hD hS hA [0] rfl
      refine va_calli (va_runV (As := []) (rest := [.int (-1)]) ⟨hx, hb, hml, hown, hts⟩ (c_X10_fault l dC dI cI cZ (H).size q_57 m_teamOf_58 m_steady_59 m_full_60 m_climb_61 m_rises_62 m_winds_63 m_primeAt_64 m_tape_65 m_clauses_66 m_letter_67 m_sign_68 m_bar_69 m_pace_70 m_rides_71 m_isOut_72 m_metre_73 m_charge_74 m_held_75 m_seconds_76 m_heldOften_77 m_work_78 m_primeSeconds_79 m_row_80 m_groupSize_81 m_place_82 m_stood_83 m_history_84 m_groupHistory_85 m_didRide_86 m_toldRow_87 m_passedBy_88 m_total_89 m_points_90 m_used_91) ⟨callB_of 0 hts (zz_goodL zw_935) rfl rfl rfl hw7 hw55 (by decide +kernel) ⟨Nat.le_of_ble_eq_true rfl, Nat.le_of_ble_eq_true rfl⟩, hw56, hw57⟩ ⟨fun a U g mk q => by obtain ⟨q0, q1, qP, qK, qD⟩ := q; exact ⟨q0, q1, qP, va_K.moved (u := U) (U := U.calling g mk a) (Vm.Alike.refl U.vm) qK, qD⟩, va_recv hK hPc (ci := 10) (q0 := 0) rfl rfl, fun U hU hW => ⟨rfl, by rw [hU], by rw [hU]; exact hPc, va_K.moved hW.alike hK, hDc.weaken (fun _ _ _ _ => trivial)⟩⟩ rfl rfl hl.1 rfl (lv_room (Nat.le_of_ble_eq_true rfl)) dL_law_406 ⟨Nat.le_of_ble_eq_true rfl, Nat.le_of_ble_eq_true rfl⟩) hS (fun q _ h => hFc q h) hFc (fun r_221 u t H1 locs ht hvm hpost hB hz1 hk1 hS => ?_)
      subst hpost
      obtain ⟨hf_222, hP1, hK1, hD1⟩ := hB
      rw [ht] at hP1
      obtain ⟨hP, hD⟩ := va_join (wr := []) (w1 := [(q_57, .inr (10, [.int 0, .int 1, .int 0, .int (-1), .int 0, .int 0, .int 0, .int 20, .ref m_teamOf_58, .ref m_steady_59, .ref m_full_60, .ref m_climb_61, .ref m_rises_62, .ref m_winds_63, .ref m_primeAt_64, .ref m_tape_65, .int 0, .int 0, .int 0, .ref m_clauses_66, .ref m_letter_67, .ref m_sign_68, .ref m_bar_69, .ref m_pace_70, .ref m_rides_71, .ref m_isOut_72, .ref m_metre_73, .ref m_charge_74, .ref m_held_75, .ref m_seconds_76, .ref m_heldOften_77, .ref m_work_78, .ref m_primeSeconds_79, .int 0, .long 0, .ref m_row_80, .int 0, .ref m_groupSize_81, .ref m_place_82, .ref m_stood_83, .ref m_history_84, .ref m_groupHistory_85, .int 0, .int 0, .int 0, .int 0, .ref m_didRide_86, .ref m_toldRow_87, .ref m_passedBy_88, .ref m_total_89, .ref m_points_90, .ref m_used_91]))]) hP hD [0] [] rfl rfl (by decide) (by decide) hk1 hFc hP1 hD1
      generalize H1 = H at hP hS ⊢
      have hP : va_P (dC, dI) vwCl [(q_57, .inr (10, [.int 0, .int 1, .int 0, .int (-1), .int 0, .int 0, .int 0, .int 20, .ref m_teamOf_58, .ref m_steady_59, .ref m_full_60, .ref m_climb_61, .ref m_rises_62, .ref m_winds_63, .ref m_primeAt_64, .ref m_tape_65, .int 0, .int 0, .int 0, .ref m_clauses_66, .ref m_letter_67, .ref m_sign_68, .ref m_bar_69, .ref m_pace_70, .ref m_rides_71, .ref m_isOut_72, .ref m_metre_73, .ref m_charge_74, .ref m_held_75, .ref m_seconds_76, .ref m_heldOften_77, .ref m_work_78, .ref m_primeSeconds_79, .int 0, .long 0, .ref m_row_80, .int 0, .ref m_groupSize_81, .ref m_place_82, .ref m_stood_83, .ref m_history_84, .ref m_groupHistory_85, .int 0, .int 0, .int 0, .int 0, .ref m_didRide_86, .ref m_toldRow_87, .ref m_passedBy_88, .ref m_total_89, .ref m_points_90, .ref m_used_91]))] H := hP
      have hD : va_D (fun q : Nat => s.heap.size ≤ q) [(q_57, .inr (10, [.int 0, .int 1, .int 0, .int (-1), .int 0, .int 0, .int 0, .int 20, .ref m_teamOf_58, .ref m_steady_59, .ref m_full_60, .ref m_climb_61, .ref m_rises_62, .ref m_winds_63, .ref m_primeAt_64, .ref m_tape_65, .int 0, .int 0, .int 0, .ref m_clauses_66, .ref m_letter_67, .ref m_sign_68, .ref m_bar_69, .ref m_pace_70, .ref m_rides_71, .ref m_isOut_72, .ref m_metre_73, .ref m_charge_74, .ref m_held_75, .ref m_seconds_76, .ref m_heldOften_77, .ref m_work_78, .ref m_primeSeconds_79, .int 0, .long 0, .ref m_row_80, .int 0, .ref m_groupSize_81, .ref m_place_82, .ref m_stood_83, .ref m_history_84, .ref m_groupHistory_85, .int 0, .int 0, .int 0, .int 0, .ref m_didRide_86, .ref m_toldRow_87, .ref m_passedBy_88, .ref m_total_89, .ref m_points_90, .ref m_used_91]))] := hD
      have hf_222 : r_221.toInt = -1 := hf_222
      obtain rfl : r_221 = (-1) := Int32.toInt_inj.mp (hf_222.trans (by decide))
      refine lv_icmp_eq (tgt := 931) hx hb dL_law_409 (by decide) (fun c_223 => ?_) (fun c_223 => ?_)
      ·
        refine lv_iinc (v := 7) (lv' := [(3, .int 7), (2, .ref q_57), (1, .ref q_1), (0, .ref b)]) hx hb dL_law_931 hl (k := 0) rfl (by decide) (by decide) rfl (fun ls hl => ?_)
        refine lv_goto (tgt := 18) hx hb dL_law_934 (by decide) ?_
        refine lv_iload_n hx hb dL_law_18 rfl (lv_at hl 0 rfl) ?_
        refine lv_aload_n hx hb dL_law_19 rfl (lv_at hl 3 rfl) ?_
        refine va_slen hx hb hX hbl hbA hS dL_law_20 ?_
        refine lv_bipush (v := 7) hx hb dL_law_21 (by decide) ?_
        refine lv_isub hx hb dL_law_23 ?_
        refine lv_topi (fun v_224 ev_224 => ?_)
        have hv_224 : v_224.toInt = ((L : Int) - (7:Int)) := by rw [ev_224]; exact zz_subI (nI_toInt (by omega)) (by decide) (by omega) (by omega)
        refine lv_icmp_gt (tgt := 937) hx hb dL_law_24 (by decide) (fun c_225 => ?_) (fun c_225 => ?_)
        ·
          have c_225 : ((L : Int) - (7:Int)) < (7:Int) := zz_lt hv_224 (by decide) c_225
          refine lv_iconst (v := 1) hx hb dL_law_937 (by decide) ?_
          refine va_forget (fun q hq => hS.2.2 q hq) ?_
          refine W.widen (k := 91) (n := 20364) (Nat.le_of_ble_eq_true rfl) (Nat.le_of_ble_eq_true rfl) ?_
          exact lw_ret hx hb hr hlocks dL_law_938
        ·
          have c_225 : ¬ (((L : Int) - (7:Int)) < (7:Int)) := zz_ltn hv_224 (by decide) c_225
          exact absurd c_225 (by omega)
      ·
        exact absurd c_223 (by decide)
    ·
      refine lv_tableIn (tgt := 414) (off := 381) hx hb dL_law_33 (by rw [hs_95]; omega) (by rw [hs_95]; omega) (by rw [hs_95, q_96]; rfl) (by decide) ?_
      have hP := hP.sub (ws' := [(q_1, .inr (9, [.ref x_riders_2, .ref x_road_7, .ref x_tape_11, .ref x_book_13, .ref x_reader_19, .ref x_latest_20, .ref x_log_35, .ref x_trial_38, .ref x_stages_53, .int 0, .int 0, .int 0])), (x_tape_11, .inr (8, [.int 0, .ref x_ta_bytes_12])), (x_ta_bytes_12, .inl (cI, 100, .inl (fun _ => 0))), (x_book_13, .inr (1, [.ref x_bo_clauses_14, .ref x_bo_asked_15, .ref x_bo_signs_16, .ref x_bo_numbers_17, .ref x_bo_paces_18])), (x_bo_clauses_14, .inl (cI, 10, .inl (fun _ => 0))), (x_bo_asked_15, .inl (cI, 160, .inl (fun _ => 0))), (x_bo_signs_16, .inl (cI, 160, .inl (fun _ => 0))), (x_bo_numbers_17, .inl (cI, 160, .inl (fun _ => 0))), (x_bo_paces_18, .inl (cI, 160, .inl (fun _ => 0))), (x_reader_19, .inr (2, [.int 0, .int 0, .int 0, .int 0, .int 0])), (q_57, .inr (10, [.int 0, .int 1, .int 0, .int (-1), .int 0, .int 0, .int 0, .int 20, .ref m_teamOf_58, .ref m_steady_59, .ref m_full_60, .ref m_climb_61, .ref m_rises_62, .ref m_winds_63, .ref m_primeAt_64, .ref m_tape_65, .int 0, .int 0, .int 0, .ref m_clauses_66, .ref m_letter_67, .ref m_sign_68, .ref m_bar_69, .ref m_pace_70, .ref m_rides_71, .ref m_isOut_72, .ref m_metre_73, .ref m_charge_74, .ref m_held_75, .ref m_seconds_76, .ref m_heldOften_77, .ref m_work_78, .ref m_primeSeconds_79, .int 0, .long 0, .ref m_row_80, .int 0, .ref m_groupSize_81, .ref m_place_82, .ref m_stood_83, .ref m_history_84, .ref m_groupHistory_85, .int 0, .int 0, .int 0, .int 0, .ref m_didRide_86, .ref m_toldRow_87, .ref m_passedBy_88, .ref m_total_89, .ref m_points_90, .ref m_used_91])), (m_clauses_66, .inl (cI, 10, .inl (fun _ => 0)))]) [0, 10, 11, 12, 13, 14, 15, 16, 17, 18, 56, 65] rfl
      have hD := hD.sub (ws' := [(q_1, .inr (9, [.ref x_riders_2, .ref x_road_7, .ref x_tape_11, .ref x_book_13, .ref x_reader_19, .ref x_latest_20, .ref x_log_35, .ref x_trial_38, .ref x_stages_53, .int 0, .int 0, .int 0])), (x_tape_11, .inr (8, [.int 0, .ref x_ta_bytes_12])), (x_ta_bytes_12, .inl (cI, 100, .inl (fun _ => 0))), (x_book_13, .inr (1, [.ref x_bo_clauses_14, .ref x_bo_asked_15, .ref x_bo_signs_16, .ref x_bo_numbers_17, .ref x_bo_paces_18])), (x_bo_clauses_14, .inl (cI, 10, .inl (fun _ => 0))), (x_bo_asked_15, .inl (cI, 160, .inl (fun _ => 0))), (x_bo_signs_16, .inl (cI, 160, .inl (fun _ => 0))), (x_bo_numbers_17, .inl (cI, 160, .inl (fun _ => 0))), (x_bo_paces_18, .inl (cI, 160, .inl (fun _ => 0))), (x_reader_19, .inr (2, [.int 0, .int 0, .int 0, .int 0, .int 0])), (q_57, .inr (10, [.int 0, .int 1, .int 0, .int (-1), .int 0, .int 0, .int 0, .int 20, .ref m_teamOf_58, .ref m_steady_59, .ref m_full_60, .ref m_climb_61, .ref m_rises_62, .ref m_winds_63, .ref m_primeAt_64, .ref m_tape_65, .int 0, .int 0, .int 0, .ref m_clauses_66, .ref m_letter_67, .ref m_sign_68, .ref m_bar_69, .ref m_pace_70, .ref m_rides_71, .ref m_isOut_72, .ref m_metre_73, .ref m_charge_74, .ref m_held_75, .ref m_seconds_76, .ref m_heldOften_77, .ref m_work_78, .ref m_primeSeconds_79, .int 0, .long 0, .ref m_row_80, .int 0, .ref m_groupSize_81, .ref m_place_82, .ref m_stood_83, .ref m_history_84, .ref m_groupHistory_85, .int 0, .int 0, .int 0, .int 0, .ref m_didRide_86, .ref m_toldRow_87, .ref m_passedBy_88, .ref m_total_89, .ref m_points_90, .ref m_used_91])), (m_clauses_66, .inl (cI, 10, .inl (fun _ => 0)))]) [0, 10, 11, 12, 13, 14, 15, 16, 17, 18, 56, 65] (by decide) rfl
      refine lv_aload_n hx hb dL_law_414 rfl (lv_at hl 2 rfl) ?_
      refine lv_aload_n hx hb dL_law_415 rfl (lv_at hl 3 rfl) ?_
      refine lv_iload_n hx hb dL_law_416 rfl (lv_at hl 0 rfl) ?_
      refine lv_iconst (v := 1) hx hb dL_law_417 (by decide) ?_
      refine lv_iadd hx hb dL_law_418 ?_
      refine lv_topi (fun v_226 ev_226 => ?_)
      obtain rfl : v_226 = 1 := ev_226.trans (by decide)
      refine va_sld hx hb hX hbl hbA hS (zz_in (a := (1:Int)) (by decide) (by omega) (by omega)) dL_law_419 ?_
      have hPc := hP.sub (ws' := [(q_1, .inr (9, [.ref x_riders_2, .ref x_road_7, .ref x_tape_11, .ref x_book_13, .ref x_reader_19, .ref x_latest_20, .ref x_log_35, .ref x_trial_38, .ref x_stages_53, .int 0, .int 0, .int 0])), (x_tape_11, .inr (8, [.int 0, .ref x_ta_bytes_12])), (x_ta_bytes_12, .inl (cI, 100, .inl (fun _ => 0))), (x_book_13, .inr (1, [.ref x_bo_clauses_14, .ref x_bo_asked_15, .ref x_bo_signs_16, .ref x_bo_numbers_17, .ref x_bo_paces_18])), (x_bo_clauses_14, .inl (cI, 10, .inl (fun _ => 0))), (x_bo_asked_15, .inl (cI, 160, .inl (fun _ => 0))), (x_bo_signs_16, .inl (cI, 160, .inl (fun _ => 0))), (x_bo_numbers_17, .inl (cI, 160, .inl (fun _ => 0))), (x_bo_paces_18, .inl (cI, 160, .inl (fun _ => 0))), (x_reader_19, .inr (2, [.int 0, .int 0, .int 0, .int 0, .int 0]))]) [0, 1, 2, 3, 4, 5, 6, 7, 8, 9] rfl
      have hDc := hD.sub (ws' := [(q_1, .inr (9, [.ref x_riders_2, .ref x_road_7, .ref x_tape_11, .ref x_book_13, .ref x_reader_19, .ref x_latest_20, .ref x_log_35, .ref x_trial_38, .ref x_stages_53, .int 0, .int 0, .int 0])), (x_tape_11, .inr (8, [.int 0, .ref x_ta_bytes_12])), (x_ta_bytes_12, .inl (cI, 100, .inl (fun _ => 0))), (x_book_13, .inr (1, [.ref x_bo_clauses_14, .ref x_bo_asked_15, .ref x_bo_signs_16, .ref x_bo_numbers_17, .ref x_bo_paces_18])), (x_bo_clauses_14, .inl (cI, 10, .inl (fun _ => 0))), (x_bo_asked_15, .inl (cI, 160, .inl (fun _ => 0))), (x_bo_signs_16, .inl (cI, 160, .inl (fun _ => 0))), (x_bo_numbers_17, .inl (cI, 160, .inl (fun _ => 0))), (x_bo_paces_18, .inl (cI, 160, .inl (fun _ => 0))), (x_reader_19, .inr (2, [.int 0, .int 0, .int 0, .int 0, .int 0]))]) [0, 1, 2, 3, 4, 5, 6, 7, 8, 9] (by decide) rfl
      have hFc := va_free (wc := [(q_1, .inr (9, [.ref x_riders_2, .ref x_road_7, .ref x_tape_11, .ref x_book_13, .ref x_reader_19, .ref x_latest_20, .ref x_log_35, .ref x_trial_38, .ref x_stages_53, .int 0, .int 0, .int 0])), (x_tape_11, .inr (8, [.int 0, .ref x_ta_bytes_12])), (x_ta_bytes_12, .inl (cI, 100, .inl (fun _ => 0))), (x_book_13, .inr (1, [.ref x_bo_clauses_14, .ref x_bo_asked_15, .ref x_bo_signs_16, .ref x_bo_numbers_17, .ref x_bo_paces_18])), (x_bo_clauses_14, .inl (cI, 10, .inl (fun _ => 0))), (x_bo_asked_15, .inl (cI, 160, .inl (fun _ => 0))), (x_bo_signs_16, .inl (cI, 160, .inl (fun _ => 0))), (x_bo_numbers_17, .inl (cI, 160, .inl (fun _ => 0))), (x_bo_paces_18, .inl (cI, 160, .inl (fun _ => 0))), (x_reader_19, .inr (2, [.int 0, .int 0, .int 0, .int 0, .int 0]))]) hD hS hA [0, 1, 2, 3, 4, 5, 6, 7, 8, 9] rfl
      refine va_calli (va_runV (As := [.int (xs (Int32.toNatClampNeg 1))]) (rest := []) ⟨hx, hb, hml, hown, hts⟩ (c_X9_orders l dC dI cI cZ (H).size q_1 x_riders_2 x_road_7 x_tape_11 x_book_13 x_reader_19 x_latest_20 x_log_35 x_trial_38 x_stages_53 x_ta_bytes_12 x_bo_clauses_14 x_bo_asked_15 x_bo_signs_16 x_bo_numbers_17 x_bo_paces_18 (xs (Int32.toNatClampNeg 1)) ((xs (Int32.toNatClampNeg 1)).toInt) rfl) ⟨callB_of 1 hts (zz_goodL zw_495) rfl rfl rfl hw2 hw58 (by decide +kernel) ⟨Nat.le_of_ble_eq_true rfl, Nat.le_of_ble_eq_true rfl⟩, hw59, hw60⟩ ⟨fun a U g mk q => by obtain ⟨q0, q1, qP, qK, qD⟩ := q; exact ⟨q0, q1, qP, va_K.moved (u := U) (U := U.calling g mk a) (Vm.Alike.refl U.vm) qK, qD⟩, va_recv hK hPc (ci := 9) (q0 := 0) rfl rfl, fun U hU hW => ⟨rfl, by rw [hU], by rw [hU]; exact hPc, va_K.moved hW.alike hK, hDc.weaken (fun _ _ _ _ => trivial)⟩⟩ rfl rfl hl.1 rfl (lv_room (Nat.le_of_ble_eq_true rfl)) dL_law_420 ⟨Nat.le_of_ble_eq_true rfl, Nat.le_of_ble_eq_true rfl⟩) hS (fun q _ h => hFc q h) hFc (fun r_227 u t H1 locs ht hvm hpost hB hz1 hk1 hS => ?_)
      subst hpost
      obtain ⟨hf_228, hP1, hK1, hD1⟩ := hB
      rw [ht] at hP1
      obtain ⟨hP, hD⟩ := va_join (wr := [(q_57, .inr (10, [.int 0, .int 1, .int 0, .int (-1), .int 0, .int 0, .int 0, .int 20, .ref m_teamOf_58, .ref m_steady_59, .ref m_full_60, .ref m_climb_61, .ref m_rises_62, .ref m_winds_63, .ref m_primeAt_64, .ref m_tape_65, .int 0, .int 0, .int 0, .ref m_clauses_66, .ref m_letter_67, .ref m_sign_68, .ref m_bar_69, .ref m_pace_70, .ref m_rides_71, .ref m_isOut_72, .ref m_metre_73, .ref m_charge_74, .ref m_held_75, .ref m_seconds_76, .ref m_heldOften_77, .ref m_work_78, .ref m_primeSeconds_79, .int 0, .long 0, .ref m_row_80, .int 0, .ref m_groupSize_81, .ref m_place_82, .ref m_stood_83, .ref m_history_84, .ref m_groupHistory_85, .int 0, .int 0, .int 0, .int 0, .ref m_didRide_86, .ref m_toldRow_87, .ref m_passedBy_88, .ref m_total_89, .ref m_points_90, .ref m_used_91])), (m_clauses_66, .inl (cI, 10, .inl (fun _ => 0)))]) (w1 := []) hP hD [0, 1, 2, 3, 4, 5, 6, 7, 8, 9] [10, 11] rfl rfl (by decide) (by decide) hk1 hFc hP1 hD1
      generalize H1 = H at hP hS ⊢
      have hP : va_P (dC, dI) vwCl [(q_57, .inr (10, [.int 0, .int 1, .int 0, .int (-1), .int 0, .int 0, .int 0, .int 20, .ref m_teamOf_58, .ref m_steady_59, .ref m_full_60, .ref m_climb_61, .ref m_rises_62, .ref m_winds_63, .ref m_primeAt_64, .ref m_tape_65, .int 0, .int 0, .int 0, .ref m_clauses_66, .ref m_letter_67, .ref m_sign_68, .ref m_bar_69, .ref m_pace_70, .ref m_rides_71, .ref m_isOut_72, .ref m_metre_73, .ref m_charge_74, .ref m_held_75, .ref m_seconds_76, .ref m_heldOften_77, .ref m_work_78, .ref m_primeSeconds_79, .int 0, .long 0, .ref m_row_80, .int 0, .ref m_groupSize_81, .ref m_place_82, .ref m_stood_83, .ref m_history_84, .ref m_groupHistory_85, .int 0, .int 0, .int 0, .int 0, .ref m_didRide_86, .ref m_toldRow_87, .ref m_passedBy_88, .ref m_total_89, .ref m_points_90, .ref m_used_91])), (m_clauses_66, .inl (cI, 10, .inl (fun _ => 0)))] H := hP
      have hD : va_D (fun q : Nat => s.heap.size ≤ q) [(q_57, .inr (10, [.int 0, .int 1, .int 0, .int (-1), .int 0, .int 0, .int 0, .int 20, .ref m_teamOf_58, .ref m_steady_59, .ref m_full_60, .ref m_climb_61, .ref m_rises_62, .ref m_winds_63, .ref m_primeAt_64, .ref m_tape_65, .int 0, .int 0, .int 0, .ref m_clauses_66, .ref m_letter_67, .ref m_sign_68, .ref m_bar_69, .ref m_pace_70, .ref m_rides_71, .ref m_isOut_72, .ref m_metre_73, .ref m_charge_74, .ref m_held_75, .ref m_seconds_76, .ref m_heldOften_77, .ref m_work_78, .ref m_primeSeconds_79, .int 0, .long 0, .ref m_row_80, .int 0, .ref m_groupSize_81, .ref m_place_82, .ref m_stood_83, .ref m_history_84, .ref m_groupHistory_85, .int 0, .int 0, .int 0, .int 0, .ref m_didRide_86, .ref m_toldRow_87, .ref m_passedBy_88, .ref m_total_89, .ref m_points_90, .ref m_used_91])), (m_clauses_66, .inl (cI, 10, .inl (fun _ => 0)))] := hD
      have hf_228 : (r_227 = 1 ∧ (0 ≤ ((xs (Int32.toNatClampNeg 1)).toInt) ∧ ((xs (Int32.toNatClampNeg 1)).toInt) ≤ 4)) ∨ (r_227 = 0 ∧ ¬ (0 ≤ ((xs (Int32.toNatClampNeg 1)).toInt) ∧ ((xs (Int32.toNatClampNeg 1)).toInt) ≤ 4)) := hf_228
      rcases hf_228 with ⟨rfl, hf_228⟩ | ⟨rfl, hf_228⟩
      ·
        refine lv_aload_n hx hb dL_law_423 rfl (lv_at hl 1 rfl) ?_
        refine lv_aload_n hx hb dL_law_424 rfl (lv_at hl 3 rfl) ?_
        refine lv_iload_n hx hb dL_law_425 rfl (lv_at hl 0 rfl) ?_
        refine lv_iconst (v := 1) hx hb dL_law_426 (by decide) ?_
        refine lv_iadd hx hb dL_law_427 ?_
        refine lv_topi (fun v_229 ev_229 => ?_)
        obtain rfl : v_229 = 1 := ev_229.trans (by decide)
        refine va_sld hx hb hX hbl hbA hS (zz_in (a := (1:Int)) (by decide) (by omega) (by omega)) dL_law_428 ?_
        have hPc := hP.sub (ws' := [(q_57, .inr (10, [.int 0, .int 1, .int 0, .int (-1), .int 0, .int 0, .int 0, .int 20, .ref m_teamOf_58, .ref m_steady_59, .ref m_full_60, .ref m_climb_61, .ref m_rises_62, .ref m_winds_63, .ref m_primeAt_64, .ref m_tape_65, .int 0, .int 0, .int 0, .ref m_clauses_66, .ref m_letter_67, .ref m_sign_68, .ref m_bar_69, .ref m_pace_70, .ref m_rides_71, .ref m_isOut_72, .ref m_metre_73, .ref m_charge_74, .ref m_held_75, .ref m_seconds_76, .ref m_heldOften_77, .ref m_work_78, .ref m_primeSeconds_79, .int 0, .long 0, .ref m_row_80, .int 0, .ref m_groupSize_81, .ref m_place_82, .ref m_stood_83, .ref m_history_84, .ref m_groupHistory_85, .int 0, .int 0, .int 0, .int 0, .ref m_didRide_86, .ref m_toldRow_87, .ref m_passedBy_88, .ref m_total_89, .ref m_points_90, .ref m_used_91])), (m_clauses_66, .inl (cI, 10, .inl (fun _ => 0)))]) [0, 1] rfl
        have hDc := hD.sub (ws' := [(q_57, .inr (10, [.int 0, .int 1, .int 0, .int (-1), .int 0, .int 0, .int 0, .int 20, .ref m_teamOf_58, .ref m_steady_59, .ref m_full_60, .ref m_climb_61, .ref m_rises_62, .ref m_winds_63, .ref m_primeAt_64, .ref m_tape_65, .int 0, .int 0, .int 0, .ref m_clauses_66, .ref m_letter_67, .ref m_sign_68, .ref m_bar_69, .ref m_pace_70, .ref m_rides_71, .ref m_isOut_72, .ref m_metre_73, .ref m_charge_74, .ref m_held_75, .ref m_seconds_76, .ref m_heldOften_77, .ref m_work_78, .ref m_primeSeconds_79, .int 0, .long 0, .ref m_row_80, .int 0, .ref m_groupSize_81, .ref m_place_82, .ref m_stood_83, .ref m_history_84, .ref m_groupHistory_85, .int 0, .int 0, .int 0, .int 0, .ref m_didRide_86, .ref m_toldRow_87, .ref m_passedBy_88, .ref m_total_89, .ref m_points_90, .ref m_used_91])), (m_clauses_66, .inl (cI, 10, .inl (fun _ => 0)))]) [0, 1] (by decide) rfl
        have hFc := va_free (wc := [(q_57, .inr (10, [.int 0, .int 1, .int 0, .int (-1), .int 0, .int 0, .int 0, .int 20, .ref m_teamOf_58, .ref m_steady_59, .ref m_full_60, .ref m_climb_61, .ref m_rises_62, .ref m_winds_63, .ref m_primeAt_64, .ref m_tape_65, .int 0, .int 0, .int 0, .ref m_clauses_66, .ref m_letter_67, .ref m_sign_68, .ref m_bar_69, .ref m_pace_70, .ref m_rides_71, .ref m_isOut_72, .ref m_metre_73, .ref m_charge_74, .ref m_held_75, .ref m_seconds_76, .ref m_heldOften_77, .ref m_work_78, .ref m_primeSeconds_79, .int 0, .long 0, .ref m_row_80, .int 0, .ref m_groupSize_81, .ref m_place_82, .ref m_stood_83, .ref m_history_84, .ref m_groupHistory_85, .int 0, .int 0, .int 0, .int 0, .ref m_didRide_86, .ref m_toldRow_87, .ref m_passedBy_88, .ref m_total_89, .ref m_points_90, .ref m_used_91])), (m_clauses_66, .inl (cI, 10, .inl (fun _ => 0)))]) hD hS hA [0, 1] rfl
        refine va_calli (va_runV (As := [.int (xs (Int32.toNatClampNeg 1))]) (rest := [.int 1]) ⟨hx, hb, hml, hown, hts⟩ (c_X10_orders l dC dI cI cZ (H).size q_57 m_teamOf_58 m_steady_59 m_full_60 m_climb_61 m_rises_62 m_winds_63 m_primeAt_64 m_tape_65 m_clauses_66 m_letter_67 m_sign_68 m_bar_69 m_pace_70 m_rides_71 m_isOut_72 m_metre_73 m_charge_74 m_held_75 m_seconds_76 m_heldOften_77 m_work_78 m_primeSeconds_79 m_row_80 m_groupSize_81 m_place_82 m_stood_83 m_history_84 m_groupHistory_85 m_didRide_86 m_toldRow_87 m_passedBy_88 m_total_89 m_points_90 m_used_91 (xs (Int32.toNatClampNeg 1)) ((xs (Int32.toNatClampNeg 1)).toInt) rfl) ⟨callB_of 1 hts (zz_goodL zw_950) rfl rfl rfl hw7 hw61 (by decide +kernel) ⟨Nat.le_of_ble_eq_true rfl, Nat.le_of_ble_eq_true rfl⟩, hw62, hw63⟩ ⟨fun a U g mk q => by obtain ⟨q0, q1, qP, qK, qD⟩ := q; exact ⟨q0, q1, qP, va_K.moved (u := U) (U := U.calling g mk a) (Vm.Alike.refl U.vm) qK, qD⟩, va_recv hK hPc (ci := 10) (q0 := 0) rfl rfl, fun U hU hW => ⟨rfl, by rw [hU], by rw [hU]; exact hPc, va_K.moved hW.alike hK, hDc.weaken (fun _ _ _ _ => trivial)⟩⟩ rfl rfl hl.1 rfl (lv_room (Nat.le_of_ble_eq_true rfl)) dL_law_429 ⟨Nat.le_of_ble_eq_true rfl, Nat.le_of_ble_eq_true rfl⟩) hS (fun q _ h => hFc q h) hFc (fun r_230 u t H1 locs ht hvm hpost hB hz1 hk1 hS => ?_)
        subst hpost
        obtain ⟨hf_231, hP1, hK1, hD1⟩ := hB
        rw [ht] at hP1
        obtain ⟨hP, hD⟩ := va_join (wr := []) (w1 := []) hP hD [0, 1] [] rfl rfl (by decide) (by decide) hk1 hFc hP1 hD1
        generalize H1 = H at hP hS ⊢
        have hP : va_P (dC, dI) vwCl [] H := hP
        have hD : va_D (fun q : Nat => s.heap.size ≤ q) [] := hD
        have hf_231 : (r_230 = 1 ∧ (0 ≤ ((xs (Int32.toNatClampNeg 1)).toInt) ∧ ((xs (Int32.toNatClampNeg 1)).toInt) ≤ 4)) ∨ (r_230 = 0 ∧ ¬ (0 ≤ ((xs (Int32.toNatClampNeg 1)).toInt) ∧ ((xs (Int32.toNatClampNeg 1)).toInt) ≤ 4)) := hf_231
        rcases hf_231 with ⟨rfl, hf_231⟩ | ⟨rfl, hf_231⟩
        ·
          refine lv_icmp_eq (tgt := 931) hx hb dL_law_432 (by decide) (fun c_232 => ?_) (fun c_232 => ?_)
          ·
            refine lv_iinc (v := 7) (lv' := [(3, .int 7), (2, .ref q_57), (1, .ref q_1), (0, .ref b)]) hx hb dL_law_931 hl (k := 0) rfl (by decide) (by decide) rfl (fun ls hl => ?_)
            refine lv_goto (tgt := 18) hx hb dL_law_934 (by decide) ?_
            refine lv_iload_n hx hb dL_law_18 rfl (lv_at hl 0 rfl) ?_
            refine lv_aload_n hx hb dL_law_19 rfl (lv_at hl 3 rfl) ?_
            refine va_slen hx hb hX hbl hbA hS dL_law_20 ?_
            refine lv_bipush (v := 7) hx hb dL_law_21 (by decide) ?_
            refine lv_isub hx hb dL_law_23 ?_
            refine lv_topi (fun v_233 ev_233 => ?_)
            have hv_233 : v_233.toInt = ((L : Int) - (7:Int)) := by rw [ev_233]; exact zz_subI (nI_toInt (by omega)) (by decide) (by omega) (by omega)
            refine lv_icmp_gt (tgt := 937) hx hb dL_law_24 (by decide) (fun c_234 => ?_) (fun c_234 => ?_)
            ·
              have c_234 : ((L : Int) - (7:Int)) < (7:Int) := zz_lt hv_233 (by decide) c_234
              refine lv_iconst (v := 1) hx hb dL_law_937 (by decide) ?_
              refine va_forget (fun q hq => hS.2.2 q hq) ?_
              refine W.widen (k := 91) (n := 20364) (Nat.le_of_ble_eq_true rfl) (Nat.le_of_ble_eq_true rfl) ?_
              exact lw_ret hx hb hr hlocks dL_law_938
            ·
              have c_234 : ¬ (((L : Int) - (7:Int)) < (7:Int)) := zz_ltn hv_233 (by decide) c_234
              exact absurd c_234 (by omega)
          ·
            exact absurd c_232 (by decide)
        ·
          exfalso
          omega
      ·
        refine lv_aload_n hx hb dL_law_423 rfl (lv_at hl 1 rfl) ?_
        refine lv_aload_n hx hb dL_law_424 rfl (lv_at hl 3 rfl) ?_
        refine lv_iload_n hx hb dL_law_425 rfl (lv_at hl 0 rfl) ?_
        refine lv_iconst (v := 1) hx hb dL_law_426 (by decide) ?_
        refine lv_iadd hx hb dL_law_427 ?_
        refine lv_topi (fun v_236 ev_236 => ?_)
        obtain rfl : v_236 = 1 := ev_236.trans (by decide)
        refine va_sld hx hb hX hbl hbA hS (zz_in (a := (1:Int)) (by decide) (by omega) (by omega)) dL_law_428 ?_
        have hPc := hP.sub (ws' := [(q_57, .inr (10, [.int 0, .int 1, .int 0, .int (-1), .int 0, .int 0, .int 0, .int 20, .ref m_teamOf_58, .ref m_steady_59, .ref m_full_60, .ref m_climb_61, .ref m_rises_62, .ref m_winds_63, .ref m_primeAt_64, .ref m_tape_65, .int 0, .int 0, .int 0, .ref m_clauses_66, .ref m_letter_67, .ref m_sign_68, .ref m_bar_69, .ref m_pace_70, .ref m_rides_71, .ref m_isOut_72, .ref m_metre_73, .ref m_charge_74, .ref m_held_75, .ref m_seconds_76, .ref m_heldOften_77, .ref m_work_78, .ref m_primeSeconds_79, .int 0, .long 0, .ref m_row_80, .int 0, .ref m_groupSize_81, .ref m_place_82, .ref m_stood_83, .ref m_history_84, .ref m_groupHistory_85, .int 0, .int 0, .int 0, .int 0, .ref m_didRide_86, .ref m_toldRow_87, .ref m_passedBy_88, .ref m_total_89, .ref m_points_90, .ref m_used_91])), (m_clauses_66, .inl (cI, 10, .inl (fun _ => 0)))]) [0, 1] rfl
        have hDc := hD.sub (ws' := [(q_57, .inr (10, [.int 0, .int 1, .int 0, .int (-1), .int 0, .int 0, .int 0, .int 20, .ref m_teamOf_58, .ref m_steady_59, .ref m_full_60, .ref m_climb_61, .ref m_rises_62, .ref m_winds_63, .ref m_primeAt_64, .ref m_tape_65, .int 0, .int 0, .int 0, .ref m_clauses_66, .ref m_letter_67, .ref m_sign_68, .ref m_bar_69, .ref m_pace_70, .ref m_rides_71, .ref m_isOut_72, .ref m_metre_73, .ref m_charge_74, .ref m_held_75, .ref m_seconds_76, .ref m_heldOften_77, .ref m_work_78, .ref m_primeSeconds_79, .int 0, .long 0, .ref m_row_80, .int 0, .ref m_groupSize_81, .ref m_place_82, .ref m_stood_83, .ref m_history_84, .ref m_groupHistory_85, .int 0, .int 0, .int 0, .int 0, .ref m_didRide_86, .ref m_toldRow_87, .ref m_passedBy_88, .ref m_total_89, .ref m_points_90, .ref m_used_91])), (m_clauses_66, .inl (cI, 10, .inl (fun _ => 0)))]) [0, 1] (by decide) rfl
        have hFc := va_free (wc := [(q_57, .inr (10, [.int 0, .int 1, .int 0, .int (-1), .int 0, .int 0, .int 0, .int 20, .ref m_teamOf_58, .ref m_steady_59, .ref m_full_60, .ref m_climb_61, .ref m_rises_62, .ref m_winds_63, .ref m_primeAt_64, .ref m_tape_65, .int 0, .int 0, .int 0, .ref m_clauses_66, .ref m_letter_67, .ref m_sign_68, .ref m_bar_69, .ref m_pace_70, .ref m_rides_71, .ref m_isOut_72, .ref m_metre_73, .ref m_charge_74, .ref m_held_75, .ref m_seconds_76, .ref m_heldOften_77, .ref m_work_78, .ref m_primeSeconds_79, .int 0, .long 0, .ref m_row_80, .int 0, .ref m_groupSize_81, .ref m_place_82, .ref m_stood_83, .ref m_history_84, .ref m_groupHistory_85, .int 0, .int 0, .int 0, .int 0, .ref m_didRide_86, .ref m_toldRow_87, .ref m_passedBy_88, .ref m_total_89, .ref m_points_90, .ref m_used_91])), (m_clauses_66, .inl (cI, 10, .inl (fun _ => 0)))]) hD hS hA [0, 1] rfl
        refine va_calli (va_runV (As := [.int (xs (Int32.toNatClampNeg 1))]) (rest := [.int 0]) ⟨hx, hb, hml, hown, hts⟩ (c_X10_orders l dC dI cI cZ (H).size q_57 m_teamOf_58 m_steady_59 m_full_60 m_climb_61 m_rises_62 m_winds_63 m_primeAt_64 m_tape_65 m_clauses_66 m_letter_67 m_sign_68 m_bar_69 m_pace_70 m_rides_71 m_isOut_72 m_metre_73 m_charge_74 m_held_75 m_seconds_76 m_heldOften_77 m_work_78 m_primeSeconds_79 m_row_80 m_groupSize_81 m_place_82 m_stood_83 m_history_84 m_groupHistory_85 m_didRide_86 m_toldRow_87 m_passedBy_88 m_total_89 m_points_90 m_used_91 (xs (Int32.toNatClampNeg 1)) ((xs (Int32.toNatClampNeg 1)).toInt) rfl) ⟨callB_of 1 hts (zz_goodL zw_950) rfl rfl rfl hw7 hw61 (by decide +kernel) ⟨Nat.le_of_ble_eq_true rfl, Nat.le_of_ble_eq_true rfl⟩, hw62, hw63⟩ ⟨fun a U g mk q => by obtain ⟨q0, q1, qP, qK, qD⟩ := q; exact ⟨q0, q1, qP, va_K.moved (u := U) (U := U.calling g mk a) (Vm.Alike.refl U.vm) qK, qD⟩, va_recv hK hPc (ci := 10) (q0 := 0) rfl rfl, fun U hU hW => ⟨rfl, by rw [hU], by rw [hU]; exact hPc, va_K.moved hW.alike hK, hDc.weaken (fun _ _ _ _ => trivial)⟩⟩ rfl rfl hl.1 rfl (lv_room (Nat.le_of_ble_eq_true rfl)) dL_law_429 ⟨Nat.le_of_ble_eq_true rfl, Nat.le_of_ble_eq_true rfl⟩) hS (fun q _ h => hFc q h) hFc (fun r_237 u t H1 locs ht hvm hpost hB hz1 hk1 hS => ?_)
        subst hpost
        obtain ⟨hf_238, hP1, hK1, hD1⟩ := hB
        rw [ht] at hP1
        obtain ⟨hP, hD⟩ := va_join (wr := []) (w1 := []) hP hD [0, 1] [] rfl rfl (by decide) (by decide) hk1 hFc hP1 hD1
        generalize H1 = H at hP hS ⊢
        have hP : va_P (dC, dI) vwCl [] H := hP
        have hD : va_D (fun q : Nat => s.heap.size ≤ q) [] := hD
        have hf_238 : (r_237 = 1 ∧ (0 ≤ ((xs (Int32.toNatClampNeg 1)).toInt) ∧ ((xs (Int32.toNatClampNeg 1)).toInt) ≤ 4)) ∨ (r_237 = 0 ∧ ¬ (0 ≤ ((xs (Int32.toNatClampNeg 1)).toInt) ∧ ((xs (Int32.toNatClampNeg 1)).toInt) ≤ 4)) := hf_238
        rcases hf_238 with ⟨rfl, hf_238⟩ | ⟨rfl, hf_238⟩
        ·
          exfalso
          omega
        ·
          refine lv_icmp_eq (tgt := 931) hx hb dL_law_432 (by decide) (fun c_240 => ?_) (fun c_240 => ?_)
          ·
            refine lv_iinc (v := 7) (lv' := [(3, .int 7), (2, .ref q_57), (1, .ref q_1), (0, .ref b)]) hx hb dL_law_931 hl (k := 0) rfl (by decide) (by decide) rfl (fun ls hl => ?_)
            refine lv_goto (tgt := 18) hx hb dL_law_934 (by decide) ?_
            refine lv_iload_n hx hb dL_law_18 rfl (lv_at hl 0 rfl) ?_
            refine lv_aload_n hx hb dL_law_19 rfl (lv_at hl 3 rfl) ?_
            refine va_slen hx hb hX hbl hbA hS dL_law_20 ?_
            refine lv_bipush (v := 7) hx hb dL_law_21 (by decide) ?_
            refine lv_isub hx hb dL_law_23 ?_
            refine lv_topi (fun v_241 ev_241 => ?_)
            have hv_241 : v_241.toInt = ((L : Int) - (7:Int)) := by rw [ev_241]; exact zz_subI (nI_toInt (by omega)) (by decide) (by omega) (by omega)
            refine lv_icmp_gt (tgt := 937) hx hb dL_law_24 (by decide) (fun c_242 => ?_) (fun c_242 => ?_)
            ·
              have c_242 : ((L : Int) - (7:Int)) < (7:Int) := zz_lt hv_241 (by decide) c_242
              refine lv_iconst (v := 1) hx hb dL_law_937 (by decide) ?_
              refine va_forget (fun q hq => hS.2.2 q hq) ?_
              refine W.widen (k := 91) (n := 20364) (Nat.le_of_ble_eq_true rfl) (Nat.le_of_ble_eq_true rfl) ?_
              exact lw_ret hx hb hr hlocks dL_law_938
            ·
              have c_242 : ¬ (((L : Int) - (7:Int)) < (7:Int)) := zz_ltn hv_241 (by decide) c_242
              exact absurd c_242 (by omega)
          ·
            exact absurd c_240 (by decide)
    ·
      refine lv_tableIn (tgt := 437) (off := 404) hx hb dL_law_33 (by rw [hs_95]; omega) (by rw [hs_95]; omega) (by rw [hs_95, q_96]; rfl) (by decide) ?_
      have hP := hP.sub (ws' := [(q_1, .inr (9, [.ref x_riders_2, .ref x_road_7, .ref x_tape_11, .ref x_book_13, .ref x_reader_19, .ref x_latest_20, .ref x_log_35, .ref x_trial_38, .ref x_stages_53, .int 0, .int 0, .int 0])), (x_tape_11, .inr (8, [.int 0, .ref x_ta_bytes_12])), (x_ta_bytes_12, .inl (cI, 100, .inl (fun _ => 0))), (x_book_13, .inr (1, [.ref x_bo_clauses_14, .ref x_bo_asked_15, .ref x_bo_signs_16, .ref x_bo_numbers_17, .ref x_bo_paces_18])), (x_bo_clauses_14, .inl (cI, 10, .inl (fun _ => 0))), (x_bo_asked_15, .inl (cI, 160, .inl (fun _ => 0))), (x_bo_signs_16, .inl (cI, 160, .inl (fun _ => 0))), (x_bo_numbers_17, .inl (cI, 160, .inl (fun _ => 0))), (x_bo_paces_18, .inl (cI, 160, .inl (fun _ => 0))), (x_reader_19, .inr (2, [.int 0, .int 0, .int 0, .int 0, .int 0])), (q_57, .inr (10, [.int 0, .int 1, .int 0, .int (-1), .int 0, .int 0, .int 0, .int 20, .ref m_teamOf_58, .ref m_steady_59, .ref m_full_60, .ref m_climb_61, .ref m_rises_62, .ref m_winds_63, .ref m_primeAt_64, .ref m_tape_65, .int 0, .int 0, .int 0, .ref m_clauses_66, .ref m_letter_67, .ref m_sign_68, .ref m_bar_69, .ref m_pace_70, .ref m_rides_71, .ref m_isOut_72, .ref m_metre_73, .ref m_charge_74, .ref m_held_75, .ref m_seconds_76, .ref m_heldOften_77, .ref m_work_78, .ref m_primeSeconds_79, .int 0, .long 0, .ref m_row_80, .int 0, .ref m_groupSize_81, .ref m_place_82, .ref m_stood_83, .ref m_history_84, .ref m_groupHistory_85, .int 0, .int 0, .int 0, .int 0, .ref m_didRide_86, .ref m_toldRow_87, .ref m_passedBy_88, .ref m_total_89, .ref m_points_90, .ref m_used_91])), (m_clauses_66, .inl (cI, 10, .inl (fun _ => 0)))]) [0, 10, 11, 12, 13, 14, 15, 16, 17, 18, 56, 65] rfl
      have hD := hD.sub (ws' := [(q_1, .inr (9, [.ref x_riders_2, .ref x_road_7, .ref x_tape_11, .ref x_book_13, .ref x_reader_19, .ref x_latest_20, .ref x_log_35, .ref x_trial_38, .ref x_stages_53, .int 0, .int 0, .int 0])), (x_tape_11, .inr (8, [.int 0, .ref x_ta_bytes_12])), (x_ta_bytes_12, .inl (cI, 100, .inl (fun _ => 0))), (x_book_13, .inr (1, [.ref x_bo_clauses_14, .ref x_bo_asked_15, .ref x_bo_signs_16, .ref x_bo_numbers_17, .ref x_bo_paces_18])), (x_bo_clauses_14, .inl (cI, 10, .inl (fun _ => 0))), (x_bo_asked_15, .inl (cI, 160, .inl (fun _ => 0))), (x_bo_signs_16, .inl (cI, 160, .inl (fun _ => 0))), (x_bo_numbers_17, .inl (cI, 160, .inl (fun _ => 0))), (x_bo_paces_18, .inl (cI, 160, .inl (fun _ => 0))), (x_reader_19, .inr (2, [.int 0, .int 0, .int 0, .int 0, .int 0])), (q_57, .inr (10, [.int 0, .int 1, .int 0, .int (-1), .int 0, .int 0, .int 0, .int 20, .ref m_teamOf_58, .ref m_steady_59, .ref m_full_60, .ref m_climb_61, .ref m_rises_62, .ref m_winds_63, .ref m_primeAt_64, .ref m_tape_65, .int 0, .int 0, .int 0, .ref m_clauses_66, .ref m_letter_67, .ref m_sign_68, .ref m_bar_69, .ref m_pace_70, .ref m_rides_71, .ref m_isOut_72, .ref m_metre_73, .ref m_charge_74, .ref m_held_75, .ref m_seconds_76, .ref m_heldOften_77, .ref m_work_78, .ref m_primeSeconds_79, .int 0, .long 0, .ref m_row_80, .int 0, .ref m_groupSize_81, .ref m_place_82, .ref m_stood_83, .ref m_history_84, .ref m_groupHistory_85, .int 0, .int 0, .int 0, .int 0, .ref m_didRide_86, .ref m_toldRow_87, .ref m_passedBy_88, .ref m_total_89, .ref m_points_90, .ref m_used_91])), (m_clauses_66, .inl (cI, 10, .inl (fun _ => 0)))]) [0, 10, 11, 12, 13, 14, 15, 16, 17, 18, 56, 65] (by decide) rfl
      refine lv_aload_n hx hb dL_law_437 rfl (lv_at hl 2 rfl) ?_
      have hPc := hP.sub (ws' := [(q_1, .inr (9, [.ref x_riders_2, .ref x_road_7, .ref x_tape_11, .ref x_book_13, .ref x_reader_19, .ref x_latest_20, .ref x_log_35, .ref x_trial_38, .ref x_stages_53, .int 0, .int 0, .int 0])), (x_tape_11, .inr (8, [.int 0, .ref x_ta_bytes_12])), (x_ta_bytes_12, .inl (cI, 100, .inl (fun _ => 0))), (x_book_13, .inr (1, [.ref x_bo_clauses_14, .ref x_bo_asked_15, .ref x_bo_signs_16, .ref x_bo_numbers_17, .ref x_bo_paces_18])), (x_bo_clauses_14, .inl (cI, 10, .inl (fun _ => 0))), (x_bo_asked_15, .inl (cI, 160, .inl (fun _ => 0))), (x_bo_signs_16, .inl (cI, 160, .inl (fun _ => 0))), (x_bo_numbers_17, .inl (cI, 160, .inl (fun _ => 0))), (x_bo_paces_18, .inl (cI, 160, .inl (fun _ => 0))), (x_reader_19, .inr (2, [.int 0, .int 0, .int 0, .int 0, .int 0]))]) [0, 1, 2, 3, 4, 5, 6, 7, 8, 9] rfl
      have hDc := hD.sub (ws' := [(q_1, .inr (9, [.ref x_riders_2, .ref x_road_7, .ref x_tape_11, .ref x_book_13, .ref x_reader_19, .ref x_latest_20, .ref x_log_35, .ref x_trial_38, .ref x_stages_53, .int 0, .int 0, .int 0])), (x_tape_11, .inr (8, [.int 0, .ref x_ta_bytes_12])), (x_ta_bytes_12, .inl (cI, 100, .inl (fun _ => 0))), (x_book_13, .inr (1, [.ref x_bo_clauses_14, .ref x_bo_asked_15, .ref x_bo_signs_16, .ref x_bo_numbers_17, .ref x_bo_paces_18])), (x_bo_clauses_14, .inl (cI, 10, .inl (fun _ => 0))), (x_bo_asked_15, .inl (cI, 160, .inl (fun _ => 0))), (x_bo_signs_16, .inl (cI, 160, .inl (fun _ => 0))), (x_bo_numbers_17, .inl (cI, 160, .inl (fun _ => 0))), (x_bo_paces_18, .inl (cI, 160, .inl (fun _ => 0))), (x_reader_19, .inr (2, [.int 0, .int 0, .int 0, .int 0, .int 0]))]) [0, 1, 2, 3, 4, 5, 6, 7, 8, 9] (by decide) rfl
      have hFc := va_free (wc := [(q_1, .inr (9, [.ref x_riders_2, .ref x_road_7, .ref x_tape_11, .ref x_book_13, .ref x_reader_19, .ref x_latest_20, .ref x_log_35, .ref x_trial_38, .ref x_stages_53, .int 0, .int 0, .int 0])), (x_tape_11, .inr (8, [.int 0, .ref x_ta_bytes_12])), (x_ta_bytes_12, .inl (cI, 100, .inl (fun _ => 0))), (x_book_13, .inr (1, [.ref x_bo_clauses_14, .ref x_bo_asked_15, .ref x_bo_signs_16, .ref x_bo_numbers_17, .ref x_bo_paces_18])), (x_bo_clauses_14, .inl (cI, 10, .inl (fun _ => 0))), (x_bo_asked_15, .inl (cI, 160, .inl (fun _ => 0))), (x_bo_signs_16, .inl (cI, 160, .inl (fun _ => 0))), (x_bo_numbers_17, .inl (cI, 160, .inl (fun _ => 0))), (x_bo_paces_18, .inl (cI, 160, .inl (fun _ => 0))), (x_reader_19, .inr (2, [.int 0, .int 0, .int 0, .int 0, .int 0]))]) hD hS hA [0, 1, 2, 3, 4, 5, 6, 7, 8, 9] rfl
      refine va_calli (va_runV (As := []) (rest := []) ⟨hx, hb, hml, hown, hts⟩ (c_X9_choice l dC dI cI cZ (H).size q_1 x_riders_2 x_road_7 x_tape_11 x_book_13 x_reader_19 x_latest_20 x_log_35 x_trial_38 x_stages_53 x_ta_bytes_12 x_bo_clauses_14 x_bo_asked_15 x_bo_signs_16 x_bo_numbers_17 x_bo_paces_18) ⟨callB_of 0 hts (zz_goodL zw_504) rfl rfl rfl hw2 hw64 (by decide +kernel) ⟨Nat.le_of_ble_eq_true rfl, Nat.le_of_ble_eq_true rfl⟩, hw65, hw66⟩ ⟨fun a U g mk q => by obtain ⟨q0, q1, qP, qK, qD⟩ := q; exact ⟨q0, q1, qP, va_K.moved (u := U) (U := U.calling g mk a) (Vm.Alike.refl U.vm) qK, qD⟩, va_recv hK hPc (ci := 9) (q0 := 0) rfl rfl, fun U hU hW => ⟨rfl, by rw [hU], by rw [hU]; exact hPc, va_K.moved hW.alike hK, hDc.weaken (fun _ _ _ _ => trivial)⟩⟩ rfl rfl hl.1 rfl (lv_room (Nat.le_of_ble_eq_true rfl)) dL_law_438 ⟨Nat.le_of_ble_eq_true rfl, Nat.le_of_ble_eq_true rfl⟩) hS (fun q _ h => hFc q h) hFc (fun r_243 u t H1 locs ht hvm hpost hB hz1 hk1 hS => ?_)
      subst hpost
      obtain ⟨hf_244, hP1, hK1, hD1⟩ := hB
      rw [ht] at hP1
      obtain ⟨hP, hD⟩ := va_join (wr := [(q_57, .inr (10, [.int 0, .int 1, .int 0, .int (-1), .int 0, .int 0, .int 0, .int 20, .ref m_teamOf_58, .ref m_steady_59, .ref m_full_60, .ref m_climb_61, .ref m_rises_62, .ref m_winds_63, .ref m_primeAt_64, .ref m_tape_65, .int 0, .int 0, .int 0, .ref m_clauses_66, .ref m_letter_67, .ref m_sign_68, .ref m_bar_69, .ref m_pace_70, .ref m_rides_71, .ref m_isOut_72, .ref m_metre_73, .ref m_charge_74, .ref m_held_75, .ref m_seconds_76, .ref m_heldOften_77, .ref m_work_78, .ref m_primeSeconds_79, .int 0, .long 0, .ref m_row_80, .int 0, .ref m_groupSize_81, .ref m_place_82, .ref m_stood_83, .ref m_history_84, .ref m_groupHistory_85, .int 0, .int 0, .int 0, .int 0, .ref m_didRide_86, .ref m_toldRow_87, .ref m_passedBy_88, .ref m_total_89, .ref m_points_90, .ref m_used_91])), (m_clauses_66, .inl (cI, 10, .inl (fun _ => 0)))]) (w1 := []) hP hD [0, 1, 2, 3, 4, 5, 6, 7, 8, 9] [10, 11] rfl rfl (by decide) (by decide) hk1 hFc hP1 hD1
      generalize H1 = H at hP hS ⊢
      have hP : va_P (dC, dI) vwCl [(q_57, .inr (10, [.int 0, .int 1, .int 0, .int (-1), .int 0, .int 0, .int 0, .int 20, .ref m_teamOf_58, .ref m_steady_59, .ref m_full_60, .ref m_climb_61, .ref m_rises_62, .ref m_winds_63, .ref m_primeAt_64, .ref m_tape_65, .int 0, .int 0, .int 0, .ref m_clauses_66, .ref m_letter_67, .ref m_sign_68, .ref m_bar_69, .ref m_pace_70, .ref m_rides_71, .ref m_isOut_72, .ref m_metre_73, .ref m_charge_74, .ref m_held_75, .ref m_seconds_76, .ref m_heldOften_77, .ref m_work_78, .ref m_primeSeconds_79, .int 0, .long 0, .ref m_row_80, .int 0, .ref m_groupSize_81, .ref m_place_82, .ref m_stood_83, .ref m_history_84, .ref m_groupHistory_85, .int 0, .int 0, .int 0, .int 0, .ref m_didRide_86, .ref m_toldRow_87, .ref m_passedBy_88, .ref m_total_89, .ref m_points_90, .ref m_used_91])), (m_clauses_66, .inl (cI, 10, .inl (fun _ => 0)))] H := hP
      have hD : va_D (fun q : Nat => s.heap.size ≤ q) [(q_57, .inr (10, [.int 0, .int 1, .int 0, .int (-1), .int 0, .int 0, .int 0, .int 20, .ref m_teamOf_58, .ref m_steady_59, .ref m_full_60, .ref m_climb_61, .ref m_rises_62, .ref m_winds_63, .ref m_primeAt_64, .ref m_tape_65, .int 0, .int 0, .int 0, .ref m_clauses_66, .ref m_letter_67, .ref m_sign_68, .ref m_bar_69, .ref m_pace_70, .ref m_rides_71, .ref m_isOut_72, .ref m_metre_73, .ref m_charge_74, .ref m_held_75, .ref m_seconds_76, .ref m_heldOften_77, .ref m_work_78, .ref m_primeSeconds_79, .int 0, .long 0, .ref m_row_80, .int 0, .ref m_groupSize_81, .ref m_place_82, .ref m_stood_83, .ref m_history_84, .ref m_groupHistory_85, .int 0, .int 0, .int 0, .int 0, .ref m_didRide_86, .ref m_toldRow_87, .ref m_passedBy_88, .ref m_total_89, .ref m_points_90, .ref m_used_91])), (m_clauses_66, .inl (cI, 10, .inl (fun _ => 0)))] := hD
      have hf_244 : r_243.toInt = 0 := hf_244
      obtain rfl : r_243 = 0 := Int32.toInt_inj.mp (hf_244.trans (by decide))
      refine lv_aload_n hx hb dL_law_441 rfl (lv_at hl 1 rfl) ?_
      have hPc := hP.sub (ws' := [(q_57, .inr (10, [.int 0, .int 1, .int 0, .int (-1), .int 0, .int 0, .int 0, .int 20, .ref m_teamOf_58, .ref m_steady_59, .ref m_full_60, .ref m_climb_61, .ref m_rises_62, .ref m_winds_63, .ref m_primeAt_64, .ref m_tape_65, .int 0, .int 0, .int 0, .ref m_clauses_66, .ref m_letter_67, .ref m_sign_68, .ref m_bar_69, .ref m_pace_70, .ref m_rides_71, .ref m_isOut_72, .ref m_metre_73, .ref m_charge_74, .ref m_held_75, .ref m_seconds_76, .ref m_heldOften_77, .ref m_work_78, .ref m_primeSeconds_79, .int 0, .long 0, .ref m_row_80, .int 0, .ref m_groupSize_81, .ref m_place_82, .ref m_stood_83, .ref m_history_84, .ref m_groupHistory_85, .int 0, .int 0, .int 0, .int 0, .ref m_didRide_86, .ref m_toldRow_87, .ref m_passedBy_88, .ref m_total_89, .ref m_points_90, .ref m_used_91])), (m_clauses_66, .inl (cI, 10, .inl (fun _ => 0)))]) [0, 1] rfl
      have hDc := hD.sub (ws' := [(q_57, .inr (10, [.int 0, .int 1, .int 0, .int (-1), .int 0, .int 0, .int 0, .int 20, .ref m_teamOf_58, .ref m_steady_59, .ref m_full_60, .ref m_climb_61, .ref m_rises_62, .ref m_winds_63, .ref m_primeAt_64, .ref m_tape_65, .int 0, .int 0, .int 0, .ref m_clauses_66, .ref m_letter_67, .ref m_sign_68, .ref m_bar_69, .ref m_pace_70, .ref m_rides_71, .ref m_isOut_72, .ref m_metre_73, .ref m_charge_74, .ref m_held_75, .ref m_seconds_76, .ref m_heldOften_77, .ref m_work_78, .ref m_primeSeconds_79, .int 0, .long 0, .ref m_row_80, .int 0, .ref m_groupSize_81, .ref m_place_82, .ref m_stood_83, .ref m_history_84, .ref m_groupHistory_85, .int 0, .int 0, .int 0, .int 0, .ref m_didRide_86, .ref m_toldRow_87, .ref m_passedBy_88, .ref m_total_89, .ref m_points_90, .ref m_used_91])), (m_clauses_66, .inl (cI, 10, .inl (fun _ => 0)))]) [0, 1] (by decide) rfl
      have hFc := va_free (wc := [(q_57, .inr (10, [.int 0, .int 1, .int 0, .int (-1), .int 0, .int 0, .int 0, .int 20, .ref m_teamOf_58, .ref m_steady_59, .ref m_full_60, .ref m_climb_61, .ref m_rises_62, .ref m_winds_63, .ref m_primeAt_64, .ref m_tape_65, .int 0, .int 0, .int 0, .ref m_clauses_66, .ref m_letter_67, .ref m_sign_68, .ref m_bar_69, .ref m_pace_70, .ref m_rides_71, .ref m_isOut_72, .ref m_metre_73, .ref m_charge_74, .ref m_held_75, .ref m_seconds_76, .ref m_heldOften_77, .ref m_work_78, .ref m_primeSeconds_79, .int 0, .long 0, .ref m_row_80, .int 0, .ref m_groupSize_81, .ref m_place_82, .ref m_stood_83, .ref m_history_84, .ref m_groupHistory_85, .int 0, .int 0, .int 0, .int 0, .ref m_didRide_86, .ref m_toldRow_87, .ref m_passedBy_88, .ref m_total_89, .ref m_points_90, .ref m_used_91])), (m_clauses_66, .inl (cI, 10, .inl (fun _ => 0)))]) hD hS hA [0, 1] rfl
      refine va_calli (va_runV (As := []) (rest := [.int 0]) ⟨hx, hb, hml, hown, hts⟩ (c_X10_choice l dC dI cI cZ (H).size q_57 m_teamOf_58 m_steady_59 m_full_60 m_climb_61 m_rises_62 m_winds_63 m_primeAt_64 m_tape_65 m_clauses_66 m_letter_67 m_sign_68 m_bar_69 m_pace_70 m_rides_71 m_isOut_72 m_metre_73 m_charge_74 m_held_75 m_seconds_76 m_heldOften_77 m_work_78 m_primeSeconds_79 m_row_80 m_groupSize_81 m_place_82 m_stood_83 m_history_84 m_groupHistory_85 m_didRide_86 m_toldRow_87 m_passedBy_88 m_total_89 m_points_90 m_used_91) ⟨callB_of 0 hts (zz_goodL zw_959) rfl rfl rfl hw7 hw67 (by decide +kernel) ⟨Nat.le_of_ble_eq_true rfl, Nat.le_of_ble_eq_true rfl⟩, hw68, hw69⟩ ⟨fun a U g mk q => by obtain ⟨q0, q1, qP, qK, qD⟩ := q; exact ⟨q0, q1, qP, va_K.moved (u := U) (U := U.calling g mk a) (Vm.Alike.refl U.vm) qK, qD⟩, va_recv hK hPc (ci := 10) (q0 := 0) rfl rfl, fun U hU hW => ⟨rfl, by rw [hU], by rw [hU]; exact hPc, va_K.moved hW.alike hK, hDc.weaken (fun _ _ _ _ => trivial)⟩⟩ rfl rfl hl.1 rfl (lv_room (Nat.le_of_ble_eq_true rfl)) dL_law_442 ⟨Nat.le_of_ble_eq_true rfl, Nat.le_of_ble_eq_true rfl⟩) hS (fun q _ h => hFc q h) hFc (fun r_245 u t H1 locs ht hvm hpost hB hz1 hk1 hS => ?_)
      subst hpost
      obtain ⟨hf_246, hP1, hK1, hD1⟩ := hB
      rw [ht] at hP1
      obtain ⟨hP, hD⟩ := va_join (wr := []) (w1 := []) hP hD [0, 1] [] rfl rfl (by decide) (by decide) hk1 hFc hP1 hD1
      generalize H1 = H at hP hS ⊢
      have hP : va_P (dC, dI) vwCl [] H := hP
      have hD : va_D (fun q : Nat => s.heap.size ≤ q) [] := hD
      have hf_246 : r_245.toInt = 0 := hf_246
      obtain rfl : r_245 = 0 := Int32.toInt_inj.mp (hf_246.trans (by decide))
      refine lv_icmp_eq (tgt := 931) hx hb dL_law_445 (by decide) (fun c_247 => ?_) (fun c_247 => ?_)
      ·
        refine lv_iinc (v := 7) (lv' := [(3, .int 7), (2, .ref q_57), (1, .ref q_1), (0, .ref b)]) hx hb dL_law_931 hl (k := 0) rfl (by decide) (by decide) rfl (fun ls hl => ?_)
        refine lv_goto (tgt := 18) hx hb dL_law_934 (by decide) ?_
        refine lv_iload_n hx hb dL_law_18 rfl (lv_at hl 0 rfl) ?_
        refine lv_aload_n hx hb dL_law_19 rfl (lv_at hl 3 rfl) ?_
        refine va_slen hx hb hX hbl hbA hS dL_law_20 ?_
        refine lv_bipush (v := 7) hx hb dL_law_21 (by decide) ?_
        refine lv_isub hx hb dL_law_23 ?_
        refine lv_topi (fun v_248 ev_248 => ?_)
        have hv_248 : v_248.toInt = ((L : Int) - (7:Int)) := by rw [ev_248]; exact zz_subI (nI_toInt (by omega)) (by decide) (by omega) (by omega)
        refine lv_icmp_gt (tgt := 937) hx hb dL_law_24 (by decide) (fun c_249 => ?_) (fun c_249 => ?_)
        ·
          have c_249 : ((L : Int) - (7:Int)) < (7:Int) := zz_lt hv_248 (by decide) c_249
          refine lv_iconst (v := 1) hx hb dL_law_937 (by decide) ?_
          refine va_forget (fun q hq => hS.2.2 q hq) ?_
          refine W.widen (k := 91) (n := 20364) (Nat.le_of_ble_eq_true rfl) (Nat.le_of_ble_eq_true rfl) ?_
          exact lw_ret hx hb hr hlocks dL_law_938
        ·
          have c_249 : ¬ (((L : Int) - (7:Int)) < (7:Int)) := zz_ltn hv_248 (by decide) c_249
          exact absurd c_249 (by omega)
      ·
        exact absurd c_247 (by decide)
    ·
      refine lv_tableIn (tgt := 450) (off := 417) hx hb dL_law_33 (by rw [hs_95]; omega) (by rw [hs_95]; omega) (by rw [hs_95, q_96]; rfl) (by decide) ?_
      have hP := hP.sub (ws' := [(q_1, .inr (9, [.ref x_riders_2, .ref x_road_7, .ref x_tape_11, .ref x_book_13, .ref x_reader_19, .ref x_latest_20, .ref x_log_35, .ref x_trial_38, .ref x_stages_53, .int 0, .int 0, .int 0])), (x_riders_2, .inr (5, [.int 0, .ref x_ri_teams_3, .ref x_ri_steady_4, .ref x_ri_full_5, .ref x_ri_climb_6])), (q_57, .inr (10, [.int 0, .int 1, .int 0, .int (-1), .int 0, .int 0, .int 0, .int 20, .ref m_teamOf_58, .ref m_steady_59, .ref m_full_60, .ref m_climb_61, .ref m_rises_62, .ref m_winds_63, .ref m_primeAt_64, .ref m_tape_65, .int 0, .int 0, .int 0, .ref m_clauses_66, .ref m_letter_67, .ref m_sign_68, .ref m_bar_69, .ref m_pace_70, .ref m_rides_71, .ref m_isOut_72, .ref m_metre_73, .ref m_charge_74, .ref m_held_75, .ref m_seconds_76, .ref m_heldOften_77, .ref m_work_78, .ref m_primeSeconds_79, .int 0, .long 0, .ref m_row_80, .int 0, .ref m_groupSize_81, .ref m_place_82, .ref m_stood_83, .ref m_history_84, .ref m_groupHistory_85, .int 0, .int 0, .int 0, .int 0, .ref m_didRide_86, .ref m_toldRow_87, .ref m_passedBy_88, .ref m_total_89, .ref m_points_90, .ref m_used_91]))]) [0, 1, 56] rfl
      have hD := hD.sub (ws' := [(q_1, .inr (9, [.ref x_riders_2, .ref x_road_7, .ref x_tape_11, .ref x_book_13, .ref x_reader_19, .ref x_latest_20, .ref x_log_35, .ref x_trial_38, .ref x_stages_53, .int 0, .int 0, .int 0])), (x_riders_2, .inr (5, [.int 0, .ref x_ri_teams_3, .ref x_ri_steady_4, .ref x_ri_full_5, .ref x_ri_climb_6])), (q_57, .inr (10, [.int 0, .int 1, .int 0, .int (-1), .int 0, .int 0, .int 0, .int 20, .ref m_teamOf_58, .ref m_steady_59, .ref m_full_60, .ref m_climb_61, .ref m_rises_62, .ref m_winds_63, .ref m_primeAt_64, .ref m_tape_65, .int 0, .int 0, .int 0, .ref m_clauses_66, .ref m_letter_67, .ref m_sign_68, .ref m_bar_69, .ref m_pace_70, .ref m_rides_71, .ref m_isOut_72, .ref m_metre_73, .ref m_charge_74, .ref m_held_75, .ref m_seconds_76, .ref m_heldOften_77, .ref m_work_78, .ref m_primeSeconds_79, .int 0, .long 0, .ref m_row_80, .int 0, .ref m_groupSize_81, .ref m_place_82, .ref m_stood_83, .ref m_history_84, .ref m_groupHistory_85, .int 0, .int 0, .int 0, .int 0, .ref m_didRide_86, .ref m_toldRow_87, .ref m_passedBy_88, .ref m_total_89, .ref m_points_90, .ref m_used_91]))]) [0, 1, 56] (by decide) rfl
      refine lv_aload_n hx hb dL_law_450 rfl (lv_at hl 2 rfl) ?_
      refine lv_aload_n hx hb dL_law_451 rfl (lv_at hl 3 rfl) ?_
      refine lv_iload_n hx hb dL_law_452 rfl (lv_at hl 0 rfl) ?_
      refine lv_iconst (v := 1) hx hb dL_law_453 (by decide) ?_
      refine lv_iadd hx hb dL_law_454 ?_
      refine lv_topi (fun v_250 ev_250 => ?_)
      obtain rfl : v_250 = 1 := ev_250.trans (by decide)
      refine va_sld hx hb hX hbl hbA hS (zz_in (a := (1:Int)) (by decide) (by omega) (by omega)) dL_law_455 ?_
      refine lv_i2l (v := (xs (Int32.toNatClampNeg 1)).toInt64) hx hb dL_law_456 rfl ?_
      refine lv_topl (fun y_251 ey_251 => ?_)
      refine lv_bipush (v := 32) hx hb dL_law_457 (by decide) ?_
      refine lv_lshl (v := y_251 <<< ((32 : Int32).toInt64 &&& 63)) hx hb dL_law_459 rfl ?_
      refine lv_topl (fun y_252 ey_252 => ?_)
      refine lv_aload_n hx hb dL_law_460 rfl (lv_at hl 3 rfl) ?_
      refine lv_iload_n hx hb dL_law_461 rfl (lv_at hl 0 rfl) ?_
      refine lv_iconst (v := 2) hx hb dL_law_462 (by decide) ?_
      refine lv_iadd hx hb dL_law_463 ?_
      refine lv_topi (fun v_253 ev_253 => ?_)
      obtain rfl : v_253 = 2 := ev_253.trans (by decide)
      refine va_sld hx hb hX hbl hbA hS (zz_in (a := (2:Int)) (by decide) (by omega) (by omega)) dL_law_464 ?_
      refine lv_i2l (v := (xs (Int32.toNatClampNeg 2)).toInt64) hx hb dL_law_465 rfl ?_
      refine lv_topl (fun y_254 ey_254 => ?_)
      refine lv_ldc2 (v := 4294967295) hx hb hown hw70 dL_law_466 ?_
      refine lv_land hx hb dL_law_469 ?_
      refine lv_topl (fun y_255 ey_255 => ?_)
      refine lv_lor hx hb dL_law_470 ?_
      refine lv_topl (fun y_256 ey_256 => ?_)
      have hPc := hP.sub (ws' := [(q_1, .inr (9, [.ref x_riders_2, .ref x_road_7, .ref x_tape_11, .ref x_book_13, .ref x_reader_19, .ref x_latest_20, .ref x_log_35, .ref x_trial_38, .ref x_stages_53, .int 0, .int 0, .int 0])), (x_riders_2, .inr (5, [.int 0, .ref x_ri_teams_3, .ref x_ri_steady_4, .ref x_ri_full_5, .ref x_ri_climb_6]))]) [0, 1] rfl
      have hDc := hD.sub (ws' := [(q_1, .inr (9, [.ref x_riders_2, .ref x_road_7, .ref x_tape_11, .ref x_book_13, .ref x_reader_19, .ref x_latest_20, .ref x_log_35, .ref x_trial_38, .ref x_stages_53, .int 0, .int 0, .int 0])), (x_riders_2, .inr (5, [.int 0, .ref x_ri_teams_3, .ref x_ri_steady_4, .ref x_ri_full_5, .ref x_ri_climb_6]))]) [0, 1] (by decide) rfl
      have hFc := va_free (wc := [(q_1, .inr (9, [.ref x_riders_2, .ref x_road_7, .ref x_tape_11, .ref x_book_13, .ref x_reader_19, .ref x_latest_20, .ref x_log_35, .ref x_trial_38, .ref x_stages_53, .int 0, .int 0, .int 0])), (x_riders_2, .inr (5, [.int 0, .ref x_ri_teams_3, .ref x_ri_steady_4, .ref x_ri_full_5, .ref x_ri_climb_6]))]) hD hS hA [0, 1] rfl
      refine va_calli (va_runV (As := [.long y_256]) (rest := []) ⟨hx, hb, hml, hown, hts⟩ (c_X9_race l dC dI cI cZ (H).size q_1 x_riders_2 x_road_7 x_tape_11 x_book_13 x_reader_19 x_latest_20 x_log_35 x_trial_38 x_stages_53 x_ri_teams_3 x_ri_steady_4 x_ri_full_5 x_ri_climb_6 y_256) ⟨callB_of 1 hts (zz_goodL zw_508) rfl rfl rfl hw2 hw71 (by decide +kernel) ⟨Nat.le_of_ble_eq_true rfl, Nat.le_of_ble_eq_true rfl⟩, hw72, hw73⟩ ⟨fun a U g mk q => by obtain ⟨q0, q1, qP, qK, qD⟩ := q; exact ⟨q0, q1, qP, va_K.moved (u := U) (U := U.calling g mk a) (Vm.Alike.refl U.vm) qK, qD⟩, va_recv hK hPc (ci := 9) (q0 := 0) rfl rfl, fun U hU hW => ⟨rfl, by rw [hU], by rw [hU]; exact hPc, va_K.moved hW.alike hK, hDc.weaken (fun _ _ _ _ => trivial)⟩⟩ rfl rfl hl.1 rfl (lv_room (Nat.le_of_ble_eq_true rfl)) dL_law_471 ⟨Nat.le_of_ble_eq_true rfl, Nat.le_of_ble_eq_true rfl⟩) hS (fun q _ h => hFc q h) hFc (fun r_257 u t H1 locs ht hvm hpost hB hz1 hk1 hS => ?_)
      subst hpost
      obtain ⟨hf_258, hP1, hK1, hD1⟩ := hB
      rw [ht] at hP1
      obtain ⟨hP, hD⟩ := va_join (wr := [(q_57, .inr (10, [.int 0, .int 1, .int 0, .int (-1), .int 0, .int 0, .int 0, .int 20, .ref m_teamOf_58, .ref m_steady_59, .ref m_full_60, .ref m_climb_61, .ref m_rises_62, .ref m_winds_63, .ref m_primeAt_64, .ref m_tape_65, .int 0, .int 0, .int 0, .ref m_clauses_66, .ref m_letter_67, .ref m_sign_68, .ref m_bar_69, .ref m_pace_70, .ref m_rides_71, .ref m_isOut_72, .ref m_metre_73, .ref m_charge_74, .ref m_held_75, .ref m_seconds_76, .ref m_heldOften_77, .ref m_work_78, .ref m_primeSeconds_79, .int 0, .long 0, .ref m_row_80, .int 0, .ref m_groupSize_81, .ref m_place_82, .ref m_stood_83, .ref m_history_84, .ref m_groupHistory_85, .int 0, .int 0, .int 0, .int 0, .ref m_didRide_86, .ref m_toldRow_87, .ref m_passedBy_88, .ref m_total_89, .ref m_points_90, .ref m_used_91]))]) (w1 := []) hP hD [0, 1] [2] rfl rfl (by decide) (by decide) hk1 hFc hP1 hD1
      generalize H1 = H at hP hS ⊢
      have hP : va_P (dC, dI) vwCl [(q_57, .inr (10, [.int 0, .int 1, .int 0, .int (-1), .int 0, .int 0, .int 0, .int 20, .ref m_teamOf_58, .ref m_steady_59, .ref m_full_60, .ref m_climb_61, .ref m_rises_62, .ref m_winds_63, .ref m_primeAt_64, .ref m_tape_65, .int 0, .int 0, .int 0, .ref m_clauses_66, .ref m_letter_67, .ref m_sign_68, .ref m_bar_69, .ref m_pace_70, .ref m_rides_71, .ref m_isOut_72, .ref m_metre_73, .ref m_charge_74, .ref m_held_75, .ref m_seconds_76, .ref m_heldOften_77, .ref m_work_78, .ref m_primeSeconds_79, .int 0, .long 0, .ref m_row_80, .int 0, .ref m_groupSize_81, .ref m_place_82, .ref m_stood_83, .ref m_history_84, .ref m_groupHistory_85, .int 0, .int 0, .int 0, .int 0, .ref m_didRide_86, .ref m_toldRow_87, .ref m_passedBy_88, .ref m_total_89, .ref m_points_90, .ref m_used_91]))] H := hP
      have hD : va_D (fun q : Nat => s.heap.size ≤ q) [(q_57, .inr (10, [.int 0, .int 1, .int 0, .int (-1), .int 0, .int 0, .int 0, .int 20, .ref m_teamOf_58, .ref m_steady_59, .ref m_full_60, .ref m_climb_61, .ref m_rises_62, .ref m_winds_63, .ref m_primeAt_64, .ref m_tape_65, .int 0, .int 0, .int 0, .ref m_clauses_66, .ref m_letter_67, .ref m_sign_68, .ref m_bar_69, .ref m_pace_70, .ref m_rides_71, .ref m_isOut_72, .ref m_metre_73, .ref m_charge_74, .ref m_held_75, .ref m_seconds_76, .ref m_heldOften_77, .ref m_work_78, .ref m_primeSeconds_79, .int 0, .long 0, .ref m_row_80, .int 0, .ref m_groupSize_81, .ref m_place_82, .ref m_stood_83, .ref m_history_84, .ref m_groupHistory_85, .int 0, .int 0, .int 0, .int 0, .ref m_didRide_86, .ref m_toldRow_87, .ref m_passedBy_88, .ref m_total_89, .ref m_points_90, .ref m_used_91]))] := hD
      have hf_258 : r_257.toInt = -1 := hf_258
      obtain rfl : r_257 = (-1) := Int32.toInt_inj.mp (hf_258.trans (by decide))
      refine lv_aload_n hx hb dL_law_474 rfl (lv_at hl 1 rfl) ?_
      refine lv_aload_n hx hb dL_law_475 rfl (lv_at hl 3 rfl) ?_
      refine lv_iload_n hx hb dL_law_476 rfl (lv_at hl 0 rfl) ?_
      refine lv_iconst (v := 1) hx hb dL_law_477 (by decide) ?_
      refine lv_iadd hx hb dL_law_478 ?_
      refine lv_topi (fun v_259 ev_259 => ?_)
      obtain rfl : v_259 = 1 := ev_259.trans (by decide)
      refine va_sld hx hb hX hbl hbA hS (zz_in (a := (1:Int)) (by decide) (by omega) (by omega)) dL_law_479 ?_
      refine lv_i2l (v := (xs (Int32.toNatClampNeg 1)).toInt64) hx hb dL_law_480 rfl ?_
      refine lv_topl (fun y_260 ey_260 => ?_)
      refine lv_bipush (v := 32) hx hb dL_law_481 (by decide) ?_
      refine lv_lshl (v := y_260 <<< ((32 : Int32).toInt64 &&& 63)) hx hb dL_law_483 rfl ?_
      refine lv_topl (fun y_261 ey_261 => ?_)
      refine lv_aload_n hx hb dL_law_484 rfl (lv_at hl 3 rfl) ?_
      refine lv_iload_n hx hb dL_law_485 rfl (lv_at hl 0 rfl) ?_
      refine lv_iconst (v := 2) hx hb dL_law_486 (by decide) ?_
      refine lv_iadd hx hb dL_law_487 ?_
      refine lv_topi (fun v_262 ev_262 => ?_)
      obtain rfl : v_262 = 2 := ev_262.trans (by decide)
      refine va_sld hx hb hX hbl hbA hS (zz_in (a := (2:Int)) (by decide) (by omega) (by omega)) dL_law_488 ?_
      refine lv_i2l (v := (xs (Int32.toNatClampNeg 2)).toInt64) hx hb dL_law_489 rfl ?_
      refine lv_topl (fun y_263 ey_263 => ?_)
      refine lv_ldc2 (v := 4294967295) hx hb hown hw70 dL_law_490 ?_
      refine lv_land hx hb dL_law_493 ?_
      refine lv_topl (fun y_264 ey_264 => ?_)
      refine lv_lor hx hb dL_law_494 ?_
      refine lv_topl (fun y_265 ey_265 => ?_)
      have hPc := hP.sub (ws' := [(q_57, .inr (10, [.int 0, .int 1, .int 0, .int (-1), .int 0, .int 0, .int 0, .int 20, .ref m_teamOf_58, .ref m_steady_59, .ref m_full_60, .ref m_climb_61, .ref m_rises_62, .ref m_winds_63, .ref m_primeAt_64, .ref m_tape_65, .int 0, .int 0, .int 0, .ref m_clauses_66, .ref m_letter_67, .ref m_sign_68, .ref m_bar_69, .ref m_pace_70, .ref m_rides_71, .ref m_isOut_72, .ref m_metre_73, .ref m_charge_74, .ref m_held_75, .ref m_seconds_76, .ref m_heldOften_77, .ref m_work_78, .ref m_primeSeconds_79, .int 0, .long 0, .ref m_row_80, .int 0, .ref m_groupSize_81, .ref m_place_82, .ref m_stood_83, .ref m_history_84, .ref m_groupHistory_85, .int 0, .int 0, .int 0, .int 0, .ref m_didRide_86, .ref m_toldRow_87, .ref m_passedBy_88, .ref m_total_89, .ref m_points_90, .ref m_used_91]))]) [0] rfl
      have hDc := hD.sub (ws' := [(q_57, .inr (10, [.int 0, .int 1, .int 0, .int (-1), .int 0, .int 0, .int 0, .int 20, .ref m_teamOf_58, .ref m_steady_59, .ref m_full_60, .ref m_climb_61, .ref m_rises_62, .ref m_winds_63, .ref m_primeAt_64, .ref m_tape_65, .int 0, .int 0, .int 0, .ref m_clauses_66, .ref m_letter_67, .ref m_sign_68, .ref m_bar_69, .ref m_pace_70, .ref m_rides_71, .ref m_isOut_72, .ref m_metre_73, .ref m_charge_74, .ref m_held_75, .ref m_seconds_76, .ref m_heldOften_77, .ref m_work_78, .ref m_primeSeconds_79, .int 0, .long 0, .ref m_row_80, .int 0, .ref m_groupSize_81, .ref m_place_82, .ref m_stood_83, .ref m_history_84, .ref m_groupHistory_85, .int 0, .int 0, .int 0, .int 0, .ref m_didRide_86, .ref m_toldRow_87, .ref m_passedBy_88, .ref m_total_89, .ref m_points_90, .ref m_used_91]))]) [0] (by decide) rfl
      have hFc := va_free (wc := [(q_57, .inr (10, [.int 0, .int 1, .int 0, .int (-1), .int 0, .int 0, .int 0, .int 20, .ref m_teamOf_58, .ref m_steady_59, .ref m_full_60, .ref m_climb_61, .ref m_rises_62, .ref m_winds_63, .ref m_primeAt_64, .ref m_tape_65, .int 0, .int 0, .int 0, .ref m_clauses_66, .ref m_letter_67, .ref m_sign_68, .ref m_bar_69, .ref m_pace_70, .ref m_rides_71, .ref m_isOut_72, .ref m_metre_73, .ref m_charge_74, .ref m_held_75, .ref m_seconds_76, .ref m_heldOften_77, .ref m_work_78, .ref m_primeSeconds_79, .int 0, .long 0, .ref m_row_80, .int 0, .ref m_groupSize_81, .ref m_place_82, .ref m_stood_83, .ref m_history_84, .ref m_groupHistory_85, .int 0, .int 0, .int 0, .int 0, .ref m_didRide_86, .ref m_toldRow_87, .ref m_passedBy_88, .ref m_total_89, .ref m_points_90, .ref m_used_91]))]) hD hS hA [0] rfl
      refine va_calli (va_runV (As := [.long y_265]) (rest := [.int (-1)]) ⟨hx, hb, hml, hown, hts⟩ (c_X10_race l dC dI cI cZ (H).size q_57 m_teamOf_58 m_steady_59 m_full_60 m_climb_61 m_rises_62 m_winds_63 m_primeAt_64 m_tape_65 m_clauses_66 m_letter_67 m_sign_68 m_bar_69 m_pace_70 m_rides_71 m_isOut_72 m_metre_73 m_charge_74 m_held_75 m_seconds_76 m_heldOften_77 m_work_78 m_primeSeconds_79 m_row_80 m_groupSize_81 m_place_82 m_stood_83 m_history_84 m_groupHistory_85 m_didRide_86 m_toldRow_87 m_passedBy_88 m_total_89 m_points_90 m_used_91 y_265) ⟨callB_of 1 hts (zz_goodL zw_963) rfl rfl rfl hw7 hw74 (by decide +kernel) ⟨Nat.le_of_ble_eq_true rfl, Nat.le_of_ble_eq_true rfl⟩, hw75, hw76⟩ ⟨fun a U g mk q => by obtain ⟨q0, q1, qP, qK, qD⟩ := q; exact ⟨q0, q1, qP, va_K.moved (u := U) (U := U.calling g mk a) (Vm.Alike.refl U.vm) qK, qD⟩, va_recv hK hPc (ci := 10) (q0 := 0) rfl rfl, fun U hU hW => ⟨rfl, by rw [hU], by rw [hU]; exact hPc, va_K.moved hW.alike hK, hDc.weaken (fun _ _ _ _ => trivial)⟩⟩ rfl rfl hl.1 rfl (lv_room (Nat.le_of_ble_eq_true rfl)) dL_law_495 ⟨Nat.le_of_ble_eq_true rfl, Nat.le_of_ble_eq_true rfl⟩) hS (fun q _ h => hFc q h) hFc (fun r_266 u t H1 locs ht hvm hpost hB hz1 hk1 hS => ?_)
      subst hpost
      obtain ⟨hf_267, hP1, hK1, hD1⟩ := hB
      rw [ht] at hP1
      obtain ⟨hP, hD⟩ := va_join (wr := []) (w1 := []) hP hD [0] [] rfl rfl (by decide) (by decide) hk1 hFc hP1 hD1
      generalize H1 = H at hP hS ⊢
      have hP : va_P (dC, dI) vwCl [] H := hP
      have hD : va_D (fun q : Nat => s.heap.size ≤ q) [] := hD
      have hf_267 : r_266.toInt = -1 := hf_267
      obtain rfl : r_266 = (-1) := Int32.toInt_inj.mp (hf_267.trans (by decide))
      refine lv_icmp_eq (tgt := 931) hx hb dL_law_498 (by decide) (fun c_268 => ?_) (fun c_268 => ?_)
      ·
        refine lv_iinc (v := 7) (lv' := [(3, .int 7), (2, .ref q_57), (1, .ref q_1), (0, .ref b)]) hx hb dL_law_931 hl (k := 0) rfl (by decide) (by decide) rfl (fun ls hl => ?_)
        refine lv_goto (tgt := 18) hx hb dL_law_934 (by decide) ?_
        refine lv_iload_n hx hb dL_law_18 rfl (lv_at hl 0 rfl) ?_
        refine lv_aload_n hx hb dL_law_19 rfl (lv_at hl 3 rfl) ?_
        refine va_slen hx hb hX hbl hbA hS dL_law_20 ?_
        refine lv_bipush (v := 7) hx hb dL_law_21 (by decide) ?_
        refine lv_isub hx hb dL_law_23 ?_
        refine lv_topi (fun v_269 ev_269 => ?_)
        have hv_269 : v_269.toInt = ((L : Int) - (7:Int)) := by rw [ev_269]; exact zz_subI (nI_toInt (by omega)) (by decide) (by omega) (by omega)
        refine lv_icmp_gt (tgt := 937) hx hb dL_law_24 (by decide) (fun c_270 => ?_) (fun c_270 => ?_)
        ·
          have c_270 : ((L : Int) - (7:Int)) < (7:Int) := zz_lt hv_269 (by decide) c_270
          refine lv_iconst (v := 1) hx hb dL_law_937 (by decide) ?_
          refine va_forget (fun q hq => hS.2.2 q hq) ?_
          refine W.widen (k := 91) (n := 20364) (Nat.le_of_ble_eq_true rfl) (Nat.le_of_ble_eq_true rfl) ?_
          exact lw_ret hx hb hr hlocks dL_law_938
        ·
          have c_270 : ¬ (((L : Int) - (7:Int)) < (7:Int)) := zz_ltn hv_269 (by decide) c_270
          exact absurd c_270 (by omega)
      ·
        exact absurd c_268 (by decide)
    ·
      refine lv_tableIn (tgt := 503) (off := 470) hx hb dL_law_33 (by rw [hs_95]; omega) (by rw [hs_95]; omega) (by rw [hs_95, q_96]; rfl) (by decide) ?_
      have hP := hP.sub (ws' := [(q_1, .inr (9, [.ref x_riders_2, .ref x_road_7, .ref x_tape_11, .ref x_book_13, .ref x_reader_19, .ref x_latest_20, .ref x_log_35, .ref x_trial_38, .ref x_stages_53, .int 0, .int 0, .int 0])), (q_57, .inr (10, [.int 0, .int 1, .int 0, .int (-1), .int 0, .int 0, .int 0, .int 20, .ref m_teamOf_58, .ref m_steady_59, .ref m_full_60, .ref m_climb_61, .ref m_rises_62, .ref m_winds_63, .ref m_primeAt_64, .ref m_tape_65, .int 0, .int 0, .int 0, .ref m_clauses_66, .ref m_letter_67, .ref m_sign_68, .ref m_bar_69, .ref m_pace_70, .ref m_rides_71, .ref m_isOut_72, .ref m_metre_73, .ref m_charge_74, .ref m_held_75, .ref m_seconds_76, .ref m_heldOften_77, .ref m_work_78, .ref m_primeSeconds_79, .int 0, .long 0, .ref m_row_80, .int 0, .ref m_groupSize_81, .ref m_place_82, .ref m_stood_83, .ref m_history_84, .ref m_groupHistory_85, .int 0, .int 0, .int 0, .int 0, .ref m_didRide_86, .ref m_toldRow_87, .ref m_passedBy_88, .ref m_total_89, .ref m_points_90, .ref m_used_91]))]) [0, 56] rfl
      have hD := hD.sub (ws' := [(q_1, .inr (9, [.ref x_riders_2, .ref x_road_7, .ref x_tape_11, .ref x_book_13, .ref x_reader_19, .ref x_latest_20, .ref x_log_35, .ref x_trial_38, .ref x_stages_53, .int 0, .int 0, .int 0])), (q_57, .inr (10, [.int 0, .int 1, .int 0, .int (-1), .int 0, .int 0, .int 0, .int 20, .ref m_teamOf_58, .ref m_steady_59, .ref m_full_60, .ref m_climb_61, .ref m_rises_62, .ref m_winds_63, .ref m_primeAt_64, .ref m_tape_65, .int 0, .int 0, .int 0, .ref m_clauses_66, .ref m_letter_67, .ref m_sign_68, .ref m_bar_69, .ref m_pace_70, .ref m_rides_71, .ref m_isOut_72, .ref m_metre_73, .ref m_charge_74, .ref m_held_75, .ref m_seconds_76, .ref m_heldOften_77, .ref m_work_78, .ref m_primeSeconds_79, .int 0, .long 0, .ref m_row_80, .int 0, .ref m_groupSize_81, .ref m_place_82, .ref m_stood_83, .ref m_history_84, .ref m_groupHistory_85, .int 0, .int 0, .int 0, .int 0, .ref m_didRide_86, .ref m_toldRow_87, .ref m_passedBy_88, .ref m_total_89, .ref m_points_90, .ref m_used_91]))]) [0, 56] (by decide) rfl
      refine lv_aload_n hx hb dL_law_503 rfl (lv_at hl 2 rfl) ?_
      refine lv_aload_n hx hb dL_law_504 rfl (lv_at hl 3 rfl) ?_
      refine lv_iload_n hx hb dL_law_505 rfl (lv_at hl 0 rfl) ?_
      refine lv_iconst (v := 1) hx hb dL_law_506 (by decide) ?_
      refine lv_iadd hx hb dL_law_507 ?_
      refine lv_topi (fun v_271 ev_271 => ?_)
      obtain rfl : v_271 = 1 := ev_271.trans (by decide)
      refine va_sld hx hb hX hbl hbA hS (zz_in (a := (1:Int)) (by decide) (by omega) (by omega)) dL_law_508 ?_
      refine lv_aload_n hx hb dL_law_509 rfl (lv_at hl 3 rfl) ?_
      refine lv_iload_n hx hb dL_law_510 rfl (lv_at hl 0 rfl) ?_
      refine lv_iconst (v := 2) hx hb dL_law_511 (by decide) ?_
      refine lv_iadd hx hb dL_law_512 ?_
      refine lv_topi (fun v_272 ev_272 => ?_)
      obtain rfl : v_272 = 2 := ev_272.trans (by decide)
      refine va_sld hx hb hX hbl hbA hS (zz_in (a := (2:Int)) (by decide) (by omega) (by omega)) dL_law_513 ?_
      have hPc := hP.sub (ws' := [(q_1, .inr (9, [.ref x_riders_2, .ref x_road_7, .ref x_tape_11, .ref x_book_13, .ref x_reader_19, .ref x_latest_20, .ref x_log_35, .ref x_trial_38, .ref x_stages_53, .int 0, .int 0, .int 0]))]) [0] rfl
      have hDc := hD.sub (ws' := [(q_1, .inr (9, [.ref x_riders_2, .ref x_road_7, .ref x_tape_11, .ref x_book_13, .ref x_reader_19, .ref x_latest_20, .ref x_log_35, .ref x_trial_38, .ref x_stages_53, .int 0, .int 0, .int 0]))]) [0] (by decide) rfl
      have hFc := va_free (wc := [(q_1, .inr (9, [.ref x_riders_2, .ref x_road_7, .ref x_tape_11, .ref x_book_13, .ref x_reader_19, .ref x_latest_20, .ref x_log_35, .ref x_trial_38, .ref x_stages_53, .int 0, .int 0, .int 0]))]) hD hS hA [0] rfl
      refine va_calli (va_runV (As := [.int (xs (Int32.toNatClampNeg 1)), .int (xs (Int32.toNatClampNeg 2))]) (rest := []) ⟨hx, hb, hml, hown, hts⟩ (c_X9_told l dC dI cI cZ (H).size q_1 x_riders_2 x_road_7 x_tape_11 x_book_13 x_reader_19 x_latest_20 x_log_35 x_trial_38 x_stages_53 (xs (Int32.toNatClampNeg 1)) ((xs (Int32.toNatClampNeg 1)).toInt) rfl (xs (Int32.toNatClampNeg 2)) ((xs (Int32.toNatClampNeg 2)).toInt) rfl) ⟨callB_of 2 hts (zz_goodL zw_598) rfl rfl rfl hw2 hw77 (by decide +kernel) ⟨Nat.le_of_ble_eq_true rfl, Nat.le_of_ble_eq_true rfl⟩, hw78, hw79⟩ ⟨fun a U g mk q => by obtain ⟨q0, q1, qP, qK, qD⟩ := q; exact ⟨q0, q1, qP, va_K.moved (u := U) (U := U.calling g mk a) (Vm.Alike.refl U.vm) qK, qD⟩, va_recv hK hPc (ci := 9) (q0 := 0) rfl rfl, fun U hU hW => ⟨rfl, by rw [hU], by rw [hU]; exact hPc, va_K.moved hW.alike hK, hDc.weaken (fun _ _ _ _ => trivial)⟩⟩ rfl rfl hl.1 rfl (lv_room (Nat.le_of_ble_eq_true rfl)) dL_law_514 ⟨Nat.le_of_ble_eq_true rfl, Nat.le_of_ble_eq_true rfl⟩) hS (fun q _ h => hFc q h) hFc (fun r_273 u t H1 locs ht hvm hpost hB hz1 hk1 hS => ?_)
      subst hpost
      obtain ⟨hf_274, hP1, hK1, hD1⟩ := hB
      rw [ht] at hP1
      obtain ⟨hP, hD⟩ := va_join (wr := [(q_57, .inr (10, [.int 0, .int 1, .int 0, .int (-1), .int 0, .int 0, .int 0, .int 20, .ref m_teamOf_58, .ref m_steady_59, .ref m_full_60, .ref m_climb_61, .ref m_rises_62, .ref m_winds_63, .ref m_primeAt_64, .ref m_tape_65, .int 0, .int 0, .int 0, .ref m_clauses_66, .ref m_letter_67, .ref m_sign_68, .ref m_bar_69, .ref m_pace_70, .ref m_rides_71, .ref m_isOut_72, .ref m_metre_73, .ref m_charge_74, .ref m_held_75, .ref m_seconds_76, .ref m_heldOften_77, .ref m_work_78, .ref m_primeSeconds_79, .int 0, .long 0, .ref m_row_80, .int 0, .ref m_groupSize_81, .ref m_place_82, .ref m_stood_83, .ref m_history_84, .ref m_groupHistory_85, .int 0, .int 0, .int 0, .int 0, .ref m_didRide_86, .ref m_toldRow_87, .ref m_passedBy_88, .ref m_total_89, .ref m_points_90, .ref m_used_91]))]) (w1 := []) hP hD [0] [1] rfl rfl (by decide) (by decide) hk1 hFc hP1 hD1
      generalize H1 = H at hP hS ⊢
      have hP : va_P (dC, dI) vwCl [(q_57, .inr (10, [.int 0, .int 1, .int 0, .int (-1), .int 0, .int 0, .int 0, .int 20, .ref m_teamOf_58, .ref m_steady_59, .ref m_full_60, .ref m_climb_61, .ref m_rises_62, .ref m_winds_63, .ref m_primeAt_64, .ref m_tape_65, .int 0, .int 0, .int 0, .ref m_clauses_66, .ref m_letter_67, .ref m_sign_68, .ref m_bar_69, .ref m_pace_70, .ref m_rides_71, .ref m_isOut_72, .ref m_metre_73, .ref m_charge_74, .ref m_held_75, .ref m_seconds_76, .ref m_heldOften_77, .ref m_work_78, .ref m_primeSeconds_79, .int 0, .long 0, .ref m_row_80, .int 0, .ref m_groupSize_81, .ref m_place_82, .ref m_stood_83, .ref m_history_84, .ref m_groupHistory_85, .int 0, .int 0, .int 0, .int 0, .ref m_didRide_86, .ref m_toldRow_87, .ref m_passedBy_88, .ref m_total_89, .ref m_points_90, .ref m_used_91]))] H := hP
      have hD : va_D (fun q : Nat => s.heap.size ≤ q) [(q_57, .inr (10, [.int 0, .int 1, .int 0, .int (-1), .int 0, .int 0, .int 0, .int 20, .ref m_teamOf_58, .ref m_steady_59, .ref m_full_60, .ref m_climb_61, .ref m_rises_62, .ref m_winds_63, .ref m_primeAt_64, .ref m_tape_65, .int 0, .int 0, .int 0, .ref m_clauses_66, .ref m_letter_67, .ref m_sign_68, .ref m_bar_69, .ref m_pace_70, .ref m_rides_71, .ref m_isOut_72, .ref m_metre_73, .ref m_charge_74, .ref m_held_75, .ref m_seconds_76, .ref m_heldOften_77, .ref m_work_78, .ref m_primeSeconds_79, .int 0, .long 0, .ref m_row_80, .int 0, .ref m_groupSize_81, .ref m_place_82, .ref m_stood_83, .ref m_history_84, .ref m_groupHistory_85, .int 0, .int 0, .int 0, .int 0, .ref m_didRide_86, .ref m_toldRow_87, .ref m_passedBy_88, .ref m_total_89, .ref m_points_90, .ref m_used_91]))] := hD
      have hf_274 : r_273.toInt = -1 := hf_274
      obtain rfl : r_273 = (-1) := Int32.toInt_inj.mp (hf_274.trans (by decide))
      refine lv_aload_n hx hb dL_law_517 rfl (lv_at hl 1 rfl) ?_
      refine lv_aload_n hx hb dL_law_518 rfl (lv_at hl 3 rfl) ?_
      refine lv_iload_n hx hb dL_law_519 rfl (lv_at hl 0 rfl) ?_
      refine lv_iconst (v := 1) hx hb dL_law_520 (by decide) ?_
      refine lv_iadd hx hb dL_law_521 ?_
      refine lv_topi (fun v_275 ev_275 => ?_)
      obtain rfl : v_275 = 1 := ev_275.trans (by decide)
      refine va_sld hx hb hX hbl hbA hS (zz_in (a := (1:Int)) (by decide) (by omega) (by omega)) dL_law_522 ?_
      refine lv_aload_n hx hb dL_law_523 rfl (lv_at hl 3 rfl) ?_
      refine lv_iload_n hx hb dL_law_524 rfl (lv_at hl 0 rfl) ?_
      refine lv_iconst (v := 2) hx hb dL_law_525 (by decide) ?_
      refine lv_iadd hx hb dL_law_526 ?_
      refine lv_topi (fun v_276 ev_276 => ?_)
      obtain rfl : v_276 = 2 := ev_276.trans (by decide)
      refine va_sld hx hb hX hbl hbA hS (zz_in (a := (2:Int)) (by decide) (by omega) (by omega)) dL_law_527 ?_
      have hPc := hP.sub (ws' := [(q_57, .inr (10, [.int 0, .int 1, .int 0, .int (-1), .int 0, .int 0, .int 0, .int 20, .ref m_teamOf_58, .ref m_steady_59, .ref m_full_60, .ref m_climb_61, .ref m_rises_62, .ref m_winds_63, .ref m_primeAt_64, .ref m_tape_65, .int 0, .int 0, .int 0, .ref m_clauses_66, .ref m_letter_67, .ref m_sign_68, .ref m_bar_69, .ref m_pace_70, .ref m_rides_71, .ref m_isOut_72, .ref m_metre_73, .ref m_charge_74, .ref m_held_75, .ref m_seconds_76, .ref m_heldOften_77, .ref m_work_78, .ref m_primeSeconds_79, .int 0, .long 0, .ref m_row_80, .int 0, .ref m_groupSize_81, .ref m_place_82, .ref m_stood_83, .ref m_history_84, .ref m_groupHistory_85, .int 0, .int 0, .int 0, .int 0, .ref m_didRide_86, .ref m_toldRow_87, .ref m_passedBy_88, .ref m_total_89, .ref m_points_90, .ref m_used_91]))]) [0] rfl
      have hDc := hD.sub (ws' := [(q_57, .inr (10, [.int 0, .int 1, .int 0, .int (-1), .int 0, .int 0, .int 0, .int 20, .ref m_teamOf_58, .ref m_steady_59, .ref m_full_60, .ref m_climb_61, .ref m_rises_62, .ref m_winds_63, .ref m_primeAt_64, .ref m_tape_65, .int 0, .int 0, .int 0, .ref m_clauses_66, .ref m_letter_67, .ref m_sign_68, .ref m_bar_69, .ref m_pace_70, .ref m_rides_71, .ref m_isOut_72, .ref m_metre_73, .ref m_charge_74, .ref m_held_75, .ref m_seconds_76, .ref m_heldOften_77, .ref m_work_78, .ref m_primeSeconds_79, .int 0, .long 0, .ref m_row_80, .int 0, .ref m_groupSize_81, .ref m_place_82, .ref m_stood_83, .ref m_history_84, .ref m_groupHistory_85, .int 0, .int 0, .int 0, .int 0, .ref m_didRide_86, .ref m_toldRow_87, .ref m_passedBy_88, .ref m_total_89, .ref m_points_90, .ref m_used_91]))]) [0] (by decide) rfl
      have hFc := va_free (wc := [(q_57, .inr (10, [.int 0, .int 1, .int 0, .int (-1), .int 0, .int 0, .int 0, .int 20, .ref m_teamOf_58, .ref m_steady_59, .ref m_full_60, .ref m_climb_61, .ref m_rises_62, .ref m_winds_63, .ref m_primeAt_64, .ref m_tape_65, .int 0, .int 0, .int 0, .ref m_clauses_66, .ref m_letter_67, .ref m_sign_68, .ref m_bar_69, .ref m_pace_70, .ref m_rides_71, .ref m_isOut_72, .ref m_metre_73, .ref m_charge_74, .ref m_held_75, .ref m_seconds_76, .ref m_heldOften_77, .ref m_work_78, .ref m_primeSeconds_79, .int 0, .long 0, .ref m_row_80, .int 0, .ref m_groupSize_81, .ref m_place_82, .ref m_stood_83, .ref m_history_84, .ref m_groupHistory_85, .int 0, .int 0, .int 0, .int 0, .ref m_didRide_86, .ref m_toldRow_87, .ref m_passedBy_88, .ref m_total_89, .ref m_points_90, .ref m_used_91]))]) hD hS hA [0] rfl
      refine va_calli (va_runV (As := [.int (xs (Int32.toNatClampNeg 1)), .int (xs (Int32.toNatClampNeg 2))]) (rest := [.int (-1)]) ⟨hx, hb, hml, hown, hts⟩ (c_X10_told l dC dI cI cZ (H).size q_57 m_teamOf_58 m_steady_59 m_full_60 m_climb_61 m_rises_62 m_winds_63 m_primeAt_64 m_tape_65 m_clauses_66 m_letter_67 m_sign_68 m_bar_69 m_pace_70 m_rides_71 m_isOut_72 m_metre_73 m_charge_74 m_held_75 m_seconds_76 m_heldOften_77 m_work_78 m_primeSeconds_79 m_row_80 m_groupSize_81 m_place_82 m_stood_83 m_history_84 m_groupHistory_85 m_didRide_86 m_toldRow_87 m_passedBy_88 m_total_89 m_points_90 m_used_91 (xs (Int32.toNatClampNeg 1)) ((xs (Int32.toNatClampNeg 1)).toInt) rfl (xs (Int32.toNatClampNeg 2)) ((xs (Int32.toNatClampNeg 2)).toInt) rfl) ⟨callB_of 2 hts (zz_goodL zw_1028) rfl rfl rfl hw7 hw80 (by decide +kernel) ⟨Nat.le_of_ble_eq_true rfl, Nat.le_of_ble_eq_true rfl⟩, hw81, hw82⟩ ⟨fun a U g mk q => by obtain ⟨q0, q1, qP, qK, qD⟩ := q; exact ⟨q0, q1, qP, va_K.moved (u := U) (U := U.calling g mk a) (Vm.Alike.refl U.vm) qK, qD⟩, va_recv hK hPc (ci := 10) (q0 := 0) rfl rfl, fun U hU hW => ⟨rfl, by rw [hU], by rw [hU]; exact hPc, va_K.moved hW.alike hK, hDc.weaken (fun _ _ _ _ => trivial)⟩⟩ rfl rfl hl.1 rfl (lv_room (Nat.le_of_ble_eq_true rfl)) dL_law_528 ⟨Nat.le_of_ble_eq_true rfl, Nat.le_of_ble_eq_true rfl⟩) hS (fun q _ h => hFc q h) hFc (fun r_277 u t H1 locs ht hvm hpost hB hz1 hk1 hS => ?_)
      subst hpost
      obtain ⟨hf_278, hP1, hK1, hD1⟩ := hB
      rw [ht] at hP1
      obtain ⟨hP, hD⟩ := va_join (wr := []) (w1 := []) hP hD [0] [] rfl rfl (by decide) (by decide) hk1 hFc hP1 hD1
      generalize H1 = H at hP hS ⊢
      have hP : va_P (dC, dI) vwCl [] H := hP
      have hD : va_D (fun q : Nat => s.heap.size ≤ q) [] := hD
      have hf_278 : r_277.toInt = -1 := hf_278
      obtain rfl : r_277 = (-1) := Int32.toInt_inj.mp (hf_278.trans (by decide))
      refine lv_icmp_eq (tgt := 931) hx hb dL_law_531 (by decide) (fun c_279 => ?_) (fun c_279 => ?_)
      ·
        refine lv_iinc (v := 7) (lv' := [(3, .int 7), (2, .ref q_57), (1, .ref q_1), (0, .ref b)]) hx hb dL_law_931 hl (k := 0) rfl (by decide) (by decide) rfl (fun ls hl => ?_)
        refine lv_goto (tgt := 18) hx hb dL_law_934 (by decide) ?_
        refine lv_iload_n hx hb dL_law_18 rfl (lv_at hl 0 rfl) ?_
        refine lv_aload_n hx hb dL_law_19 rfl (lv_at hl 3 rfl) ?_
        refine va_slen hx hb hX hbl hbA hS dL_law_20 ?_
        refine lv_bipush (v := 7) hx hb dL_law_21 (by decide) ?_
        refine lv_isub hx hb dL_law_23 ?_
        refine lv_topi (fun v_280 ev_280 => ?_)
        have hv_280 : v_280.toInt = ((L : Int) - (7:Int)) := by rw [ev_280]; exact zz_subI (nI_toInt (by omega)) (by decide) (by omega) (by omega)
        refine lv_icmp_gt (tgt := 937) hx hb dL_law_24 (by decide) (fun c_281 => ?_) (fun c_281 => ?_)
        ·
          have c_281 : ((L : Int) - (7:Int)) < (7:Int) := zz_lt hv_280 (by decide) c_281
          refine lv_iconst (v := 1) hx hb dL_law_937 (by decide) ?_
          refine va_forget (fun q hq => hS.2.2 q hq) ?_
          refine W.widen (k := 91) (n := 20364) (Nat.le_of_ble_eq_true rfl) (Nat.le_of_ble_eq_true rfl) ?_
          exact lw_ret hx hb hr hlocks dL_law_938
        ·
          have c_281 : ¬ (((L : Int) - (7:Int)) < (7:Int)) := zz_ltn hv_280 (by decide) c_281
          exact absurd c_281 (by omega)
      ·
        exact absurd c_279 (by decide)
    ·
      refine lv_tableIn (tgt := 536) (off := 503) hx hb dL_law_33 (by rw [hs_95]; omega) (by rw [hs_95]; omega) (by rw [hs_95, q_96]; rfl) (by decide) ?_
      have hP := hP.sub (ws' := [(q_1, .inr (9, [.ref x_riders_2, .ref x_road_7, .ref x_tape_11, .ref x_book_13, .ref x_reader_19, .ref x_latest_20, .ref x_log_35, .ref x_trial_38, .ref x_stages_53, .int 0, .int 0, .int 0])), (q_57, .inr (10, [.int 0, .int 1, .int 0, .int (-1), .int 0, .int 0, .int 0, .int 20, .ref m_teamOf_58, .ref m_steady_59, .ref m_full_60, .ref m_climb_61, .ref m_rises_62, .ref m_winds_63, .ref m_primeAt_64, .ref m_tape_65, .int 0, .int 0, .int 0, .ref m_clauses_66, .ref m_letter_67, .ref m_sign_68, .ref m_bar_69, .ref m_pace_70, .ref m_rides_71, .ref m_isOut_72, .ref m_metre_73, .ref m_charge_74, .ref m_held_75, .ref m_seconds_76, .ref m_heldOften_77, .ref m_work_78, .ref m_primeSeconds_79, .int 0, .long 0, .ref m_row_80, .int 0, .ref m_groupSize_81, .ref m_place_82, .ref m_stood_83, .ref m_history_84, .ref m_groupHistory_85, .int 0, .int 0, .int 0, .int 0, .ref m_didRide_86, .ref m_toldRow_87, .ref m_passedBy_88, .ref m_total_89, .ref m_points_90, .ref m_used_91]))]) [0, 56] rfl
      have hD := hD.sub (ws' := [(q_1, .inr (9, [.ref x_riders_2, .ref x_road_7, .ref x_tape_11, .ref x_book_13, .ref x_reader_19, .ref x_latest_20, .ref x_log_35, .ref x_trial_38, .ref x_stages_53, .int 0, .int 0, .int 0])), (q_57, .inr (10, [.int 0, .int 1, .int 0, .int (-1), .int 0, .int 0, .int 0, .int 20, .ref m_teamOf_58, .ref m_steady_59, .ref m_full_60, .ref m_climb_61, .ref m_rises_62, .ref m_winds_63, .ref m_primeAt_64, .ref m_tape_65, .int 0, .int 0, .int 0, .ref m_clauses_66, .ref m_letter_67, .ref m_sign_68, .ref m_bar_69, .ref m_pace_70, .ref m_rides_71, .ref m_isOut_72, .ref m_metre_73, .ref m_charge_74, .ref m_held_75, .ref m_seconds_76, .ref m_heldOften_77, .ref m_work_78, .ref m_primeSeconds_79, .int 0, .long 0, .ref m_row_80, .int 0, .ref m_groupSize_81, .ref m_place_82, .ref m_stood_83, .ref m_history_84, .ref m_groupHistory_85, .int 0, .int 0, .int 0, .int 0, .ref m_didRide_86, .ref m_toldRow_87, .ref m_passedBy_88, .ref m_total_89, .ref m_points_90, .ref m_used_91]))]) [0, 56] (by decide) rfl
      refine lv_aload_n hx hb dL_law_536 rfl (lv_at hl 2 rfl) ?_
      refine lv_aload_n hx hb dL_law_537 rfl (lv_at hl 3 rfl) ?_
      refine lv_iload_n hx hb dL_law_538 rfl (lv_at hl 0 rfl) ?_
      refine lv_iconst (v := 1) hx hb dL_law_539 (by decide) ?_
      refine lv_iadd hx hb dL_law_540 ?_
      refine lv_topi (fun v_282 ev_282 => ?_)
      obtain rfl : v_282 = 1 := ev_282.trans (by decide)
      refine va_sld hx hb hX hbl hbA hS (zz_in (a := (1:Int)) (by decide) (by omega) (by omega)) dL_law_541 ?_
      have hPc := hP.sub (ws' := [(q_1, .inr (9, [.ref x_riders_2, .ref x_road_7, .ref x_tape_11, .ref x_book_13, .ref x_reader_19, .ref x_latest_20, .ref x_log_35, .ref x_trial_38, .ref x_stages_53, .int 0, .int 0, .int 0]))]) [0] rfl
      have hDc := hD.sub (ws' := [(q_1, .inr (9, [.ref x_riders_2, .ref x_road_7, .ref x_tape_11, .ref x_book_13, .ref x_reader_19, .ref x_latest_20, .ref x_log_35, .ref x_trial_38, .ref x_stages_53, .int 0, .int 0, .int 0]))]) [0] (by decide) rfl
      have hFc := va_free (wc := [(q_1, .inr (9, [.ref x_riders_2, .ref x_road_7, .ref x_tape_11, .ref x_book_13, .ref x_reader_19, .ref x_latest_20, .ref x_log_35, .ref x_trial_38, .ref x_stages_53, .int 0, .int 0, .int 0]))]) hD hS hA [0] rfl
      refine va_calli (va_runV (As := [.int (xs (Int32.toNatClampNeg 1))]) (rest := []) ⟨hx, hb, hml, hown, hts⟩ (c_X9_at l dC dI cI cZ (H).size q_1 x_riders_2 x_road_7 x_tape_11 x_book_13 x_reader_19 x_latest_20 x_log_35 x_trial_38 x_stages_53 (xs (Int32.toNatClampNeg 1)) ((xs (Int32.toNatClampNeg 1)).toInt) rfl) ⟨callB_of 1 hts (zz_goodL zw_617) rfl rfl rfl hw2 hw83 (by decide +kernel) ⟨Nat.le_of_ble_eq_true rfl, Nat.le_of_ble_eq_true rfl⟩, hw84, hw85⟩ ⟨fun a U g mk q => by obtain ⟨q0, q1, qP, qK, qD⟩ := q; exact ⟨q0, q1, qP, va_K.moved (u := U) (U := U.calling g mk a) (Vm.Alike.refl U.vm) qK, qD⟩, va_recv hK hPc (ci := 9) (q0 := 0) rfl rfl, fun U hU hW => ⟨rfl, by rw [hU], by rw [hU]; exact hPc, va_K.moved hW.alike hK, hDc.weaken (fun _ _ _ _ => trivial)⟩⟩ rfl rfl hl.1 rfl (lv_room (Nat.le_of_ble_eq_true rfl)) dL_law_542 ⟨Nat.le_of_ble_eq_true rfl, Nat.le_of_ble_eq_true rfl⟩) hS (fun q _ h => hFc q h) hFc (fun r_283 u t H1 locs ht hvm hpost hB hz1 hk1 hS => ?_)
      subst hpost
      obtain ⟨hf_284, hP1, hK1, hD1⟩ := hB
      rw [ht] at hP1
      obtain ⟨hP, hD⟩ := va_join (wr := [(q_57, .inr (10, [.int 0, .int 1, .int 0, .int (-1), .int 0, .int 0, .int 0, .int 20, .ref m_teamOf_58, .ref m_steady_59, .ref m_full_60, .ref m_climb_61, .ref m_rises_62, .ref m_winds_63, .ref m_primeAt_64, .ref m_tape_65, .int 0, .int 0, .int 0, .ref m_clauses_66, .ref m_letter_67, .ref m_sign_68, .ref m_bar_69, .ref m_pace_70, .ref m_rides_71, .ref m_isOut_72, .ref m_metre_73, .ref m_charge_74, .ref m_held_75, .ref m_seconds_76, .ref m_heldOften_77, .ref m_work_78, .ref m_primeSeconds_79, .int 0, .long 0, .ref m_row_80, .int 0, .ref m_groupSize_81, .ref m_place_82, .ref m_stood_83, .ref m_history_84, .ref m_groupHistory_85, .int 0, .int 0, .int 0, .int 0, .ref m_didRide_86, .ref m_toldRow_87, .ref m_passedBy_88, .ref m_total_89, .ref m_points_90, .ref m_used_91]))]) (w1 := []) hP hD [0] [1] rfl rfl (by decide) (by decide) hk1 hFc hP1 hD1
      generalize H1 = H at hP hS ⊢
      have hP : va_P (dC, dI) vwCl [(q_57, .inr (10, [.int 0, .int 1, .int 0, .int (-1), .int 0, .int 0, .int 0, .int 20, .ref m_teamOf_58, .ref m_steady_59, .ref m_full_60, .ref m_climb_61, .ref m_rises_62, .ref m_winds_63, .ref m_primeAt_64, .ref m_tape_65, .int 0, .int 0, .int 0, .ref m_clauses_66, .ref m_letter_67, .ref m_sign_68, .ref m_bar_69, .ref m_pace_70, .ref m_rides_71, .ref m_isOut_72, .ref m_metre_73, .ref m_charge_74, .ref m_held_75, .ref m_seconds_76, .ref m_heldOften_77, .ref m_work_78, .ref m_primeSeconds_79, .int 0, .long 0, .ref m_row_80, .int 0, .ref m_groupSize_81, .ref m_place_82, .ref m_stood_83, .ref m_history_84, .ref m_groupHistory_85, .int 0, .int 0, .int 0, .int 0, .ref m_didRide_86, .ref m_toldRow_87, .ref m_passedBy_88, .ref m_total_89, .ref m_points_90, .ref m_used_91]))] H := hP
      have hD : va_D (fun q : Nat => s.heap.size ≤ q) [(q_57, .inr (10, [.int 0, .int 1, .int 0, .int (-1), .int 0, .int 0, .int 0, .int 20, .ref m_teamOf_58, .ref m_steady_59, .ref m_full_60, .ref m_climb_61, .ref m_rises_62, .ref m_winds_63, .ref m_primeAt_64, .ref m_tape_65, .int 0, .int 0, .int 0, .ref m_clauses_66, .ref m_letter_67, .ref m_sign_68, .ref m_bar_69, .ref m_pace_70, .ref m_rides_71, .ref m_isOut_72, .ref m_metre_73, .ref m_charge_74, .ref m_held_75, .ref m_seconds_76, .ref m_heldOften_77, .ref m_work_78, .ref m_primeSeconds_79, .int 0, .long 0, .ref m_row_80, .int 0, .ref m_groupSize_81, .ref m_place_82, .ref m_stood_83, .ref m_history_84, .ref m_groupHistory_85, .int 0, .int 0, .int 0, .int 0, .ref m_didRide_86, .ref m_toldRow_87, .ref m_passedBy_88, .ref m_total_89, .ref m_points_90, .ref m_used_91]))] := hD
      have hf_284 : r_283.toInt = -1 := hf_284
      obtain rfl : r_283 = (-1) := Int32.toInt_inj.mp (hf_284.trans (by decide))
      refine lv_aload_n hx hb dL_law_545 rfl (lv_at hl 1 rfl) ?_
      refine lv_aload_n hx hb dL_law_546 rfl (lv_at hl 3 rfl) ?_
      refine lv_iload_n hx hb dL_law_547 rfl (lv_at hl 0 rfl) ?_
      refine lv_iconst (v := 1) hx hb dL_law_548 (by decide) ?_
      refine lv_iadd hx hb dL_law_549 ?_
      refine lv_topi (fun v_285 ev_285 => ?_)
      obtain rfl : v_285 = 1 := ev_285.trans (by decide)
      refine va_sld hx hb hX hbl hbA hS (zz_in (a := (1:Int)) (by decide) (by omega) (by omega)) dL_law_550 ?_
      have hPc := hP.sub (ws' := [(q_57, .inr (10, [.int 0, .int 1, .int 0, .int (-1), .int 0, .int 0, .int 0, .int 20, .ref m_teamOf_58, .ref m_steady_59, .ref m_full_60, .ref m_climb_61, .ref m_rises_62, .ref m_winds_63, .ref m_primeAt_64, .ref m_tape_65, .int 0, .int 0, .int 0, .ref m_clauses_66, .ref m_letter_67, .ref m_sign_68, .ref m_bar_69, .ref m_pace_70, .ref m_rides_71, .ref m_isOut_72, .ref m_metre_73, .ref m_charge_74, .ref m_held_75, .ref m_seconds_76, .ref m_heldOften_77, .ref m_work_78, .ref m_primeSeconds_79, .int 0, .long 0, .ref m_row_80, .int 0, .ref m_groupSize_81, .ref m_place_82, .ref m_stood_83, .ref m_history_84, .ref m_groupHistory_85, .int 0, .int 0, .int 0, .int 0, .ref m_didRide_86, .ref m_toldRow_87, .ref m_passedBy_88, .ref m_total_89, .ref m_points_90, .ref m_used_91]))]) [0] rfl
      have hDc := hD.sub (ws' := [(q_57, .inr (10, [.int 0, .int 1, .int 0, .int (-1), .int 0, .int 0, .int 0, .int 20, .ref m_teamOf_58, .ref m_steady_59, .ref m_full_60, .ref m_climb_61, .ref m_rises_62, .ref m_winds_63, .ref m_primeAt_64, .ref m_tape_65, .int 0, .int 0, .int 0, .ref m_clauses_66, .ref m_letter_67, .ref m_sign_68, .ref m_bar_69, .ref m_pace_70, .ref m_rides_71, .ref m_isOut_72, .ref m_metre_73, .ref m_charge_74, .ref m_held_75, .ref m_seconds_76, .ref m_heldOften_77, .ref m_work_78, .ref m_primeSeconds_79, .int 0, .long 0, .ref m_row_80, .int 0, .ref m_groupSize_81, .ref m_place_82, .ref m_stood_83, .ref m_history_84, .ref m_groupHistory_85, .int 0, .int 0, .int 0, .int 0, .ref m_didRide_86, .ref m_toldRow_87, .ref m_passedBy_88, .ref m_total_89, .ref m_points_90, .ref m_used_91]))]) [0] (by decide) rfl
      have hFc := va_free (wc := [(q_57, .inr (10, [.int 0, .int 1, .int 0, .int (-1), .int 0, .int 0, .int 0, .int 20, .ref m_teamOf_58, .ref m_steady_59, .ref m_full_60, .ref m_climb_61, .ref m_rises_62, .ref m_winds_63, .ref m_primeAt_64, .ref m_tape_65, .int 0, .int 0, .int 0, .ref m_clauses_66, .ref m_letter_67, .ref m_sign_68, .ref m_bar_69, .ref m_pace_70, .ref m_rides_71, .ref m_isOut_72, .ref m_metre_73, .ref m_charge_74, .ref m_held_75, .ref m_seconds_76, .ref m_heldOften_77, .ref m_work_78, .ref m_primeSeconds_79, .int 0, .long 0, .ref m_row_80, .int 0, .ref m_groupSize_81, .ref m_place_82, .ref m_stood_83, .ref m_history_84, .ref m_groupHistory_85, .int 0, .int 0, .int 0, .int 0, .ref m_didRide_86, .ref m_toldRow_87, .ref m_passedBy_88, .ref m_total_89, .ref m_points_90, .ref m_used_91]))]) hD hS hA [0] rfl
      refine va_calli (va_runV (As := [.int (xs (Int32.toNatClampNeg 1))]) (rest := [.int (-1)]) ⟨hx, hb, hml, hown, hts⟩ (c_X10_at l dC dI cI cZ (H).size q_57 m_teamOf_58 m_steady_59 m_full_60 m_climb_61 m_rises_62 m_winds_63 m_primeAt_64 m_tape_65 m_clauses_66 m_letter_67 m_sign_68 m_bar_69 m_pace_70 m_rides_71 m_isOut_72 m_metre_73 m_charge_74 m_held_75 m_seconds_76 m_heldOften_77 m_work_78 m_primeSeconds_79 m_row_80 m_groupSize_81 m_place_82 m_stood_83 m_history_84 m_groupHistory_85 m_didRide_86 m_toldRow_87 m_passedBy_88 m_total_89 m_points_90 m_used_91 (xs (Int32.toNatClampNeg 1)) ((xs (Int32.toNatClampNeg 1)).toInt) rfl) ⟨callB_of 1 hts (zz_goodL zw_1036) rfl rfl rfl hw7 hw86 (by decide +kernel) ⟨Nat.le_of_ble_eq_true rfl, Nat.le_of_ble_eq_true rfl⟩, hw87, hw88⟩ ⟨fun a U g mk q => by obtain ⟨q0, q1, qP, qK, qD⟩ := q; exact ⟨q0, q1, qP, va_K.moved (u := U) (U := U.calling g mk a) (Vm.Alike.refl U.vm) qK, qD⟩, va_recv hK hPc (ci := 10) (q0 := 0) rfl rfl, fun U hU hW => ⟨rfl, by rw [hU], by rw [hU]; exact hPc, va_K.moved hW.alike hK, hDc.weaken (fun _ _ _ _ => trivial)⟩⟩ rfl rfl hl.1 rfl (lv_room (Nat.le_of_ble_eq_true rfl)) dL_law_551 ⟨Nat.le_of_ble_eq_true rfl, Nat.le_of_ble_eq_true rfl⟩) hS (fun q _ h => hFc q h) hFc (fun r_286 u t H1 locs ht hvm hpost hB hz1 hk1 hS => ?_)
      subst hpost
      obtain ⟨hf_287, hP1, hK1, hD1⟩ := hB
      rw [ht] at hP1
      obtain ⟨hP, hD⟩ := va_join (wr := []) (w1 := []) hP hD [0] [] rfl rfl (by decide) (by decide) hk1 hFc hP1 hD1
      generalize H1 = H at hP hS ⊢
      have hP : va_P (dC, dI) vwCl [] H := hP
      have hD : va_D (fun q : Nat => s.heap.size ≤ q) [] := hD
      have hf_287 : r_286.toInt = -1 := hf_287
      obtain rfl : r_286 = (-1) := Int32.toInt_inj.mp (hf_287.trans (by decide))
      refine lv_icmp_eq (tgt := 931) hx hb dL_law_554 (by decide) (fun c_288 => ?_) (fun c_288 => ?_)
      ·
        refine lv_iinc (v := 7) (lv' := [(3, .int 7), (2, .ref q_57), (1, .ref q_1), (0, .ref b)]) hx hb dL_law_931 hl (k := 0) rfl (by decide) (by decide) rfl (fun ls hl => ?_)
        refine lv_goto (tgt := 18) hx hb dL_law_934 (by decide) ?_
        refine lv_iload_n hx hb dL_law_18 rfl (lv_at hl 0 rfl) ?_
        refine lv_aload_n hx hb dL_law_19 rfl (lv_at hl 3 rfl) ?_
        refine va_slen hx hb hX hbl hbA hS dL_law_20 ?_
        refine lv_bipush (v := 7) hx hb dL_law_21 (by decide) ?_
        refine lv_isub hx hb dL_law_23 ?_
        refine lv_topi (fun v_289 ev_289 => ?_)
        have hv_289 : v_289.toInt = ((L : Int) - (7:Int)) := by rw [ev_289]; exact zz_subI (nI_toInt (by omega)) (by decide) (by omega) (by omega)
        refine lv_icmp_gt (tgt := 937) hx hb dL_law_24 (by decide) (fun c_290 => ?_) (fun c_290 => ?_)
        ·
          have c_290 : ((L : Int) - (7:Int)) < (7:Int) := zz_lt hv_289 (by decide) c_290
          refine lv_iconst (v := 1) hx hb dL_law_937 (by decide) ?_
          refine va_forget (fun q hq => hS.2.2 q hq) ?_
          refine W.widen (k := 91) (n := 20364) (Nat.le_of_ble_eq_true rfl) (Nat.le_of_ble_eq_true rfl) ?_
          exact lw_ret hx hb hr hlocks dL_law_938
        ·
          have c_290 : ¬ (((L : Int) - (7:Int)) < (7:Int)) := zz_ltn hv_289 (by decide) c_290
          exact absurd c_290 (by omega)
      ·
        exact absurd c_288 (by decide)
    ·
      refine lv_tableIn (tgt := 559) (off := 526) hx hb dL_law_33 (by rw [hs_95]; omega) (by rw [hs_95]; omega) (by rw [hs_95, q_96]; rfl) (by decide) ?_
      have hP := hP.sub (ws' := [(q_1, .inr (9, [.ref x_riders_2, .ref x_road_7, .ref x_tape_11, .ref x_book_13, .ref x_reader_19, .ref x_latest_20, .ref x_log_35, .ref x_trial_38, .ref x_stages_53, .int 0, .int 0, .int 0])), (q_57, .inr (10, [.int 0, .int 1, .int 0, .int (-1), .int 0, .int 0, .int 0, .int 20, .ref m_teamOf_58, .ref m_steady_59, .ref m_full_60, .ref m_climb_61, .ref m_rises_62, .ref m_winds_63, .ref m_primeAt_64, .ref m_tape_65, .int 0, .int 0, .int 0, .ref m_clauses_66, .ref m_letter_67, .ref m_sign_68, .ref m_bar_69, .ref m_pace_70, .ref m_rides_71, .ref m_isOut_72, .ref m_metre_73, .ref m_charge_74, .ref m_held_75, .ref m_seconds_76, .ref m_heldOften_77, .ref m_work_78, .ref m_primeSeconds_79, .int 0, .long 0, .ref m_row_80, .int 0, .ref m_groupSize_81, .ref m_place_82, .ref m_stood_83, .ref m_history_84, .ref m_groupHistory_85, .int 0, .int 0, .int 0, .int 0, .ref m_didRide_86, .ref m_toldRow_87, .ref m_passedBy_88, .ref m_total_89, .ref m_points_90, .ref m_used_91]))]) [0, 56] rfl
      have hD := hD.sub (ws' := [(q_1, .inr (9, [.ref x_riders_2, .ref x_road_7, .ref x_tape_11, .ref x_book_13, .ref x_reader_19, .ref x_latest_20, .ref x_log_35, .ref x_trial_38, .ref x_stages_53, .int 0, .int 0, .int 0])), (q_57, .inr (10, [.int 0, .int 1, .int 0, .int (-1), .int 0, .int 0, .int 0, .int 20, .ref m_teamOf_58, .ref m_steady_59, .ref m_full_60, .ref m_climb_61, .ref m_rises_62, .ref m_winds_63, .ref m_primeAt_64, .ref m_tape_65, .int 0, .int 0, .int 0, .ref m_clauses_66, .ref m_letter_67, .ref m_sign_68, .ref m_bar_69, .ref m_pace_70, .ref m_rides_71, .ref m_isOut_72, .ref m_metre_73, .ref m_charge_74, .ref m_held_75, .ref m_seconds_76, .ref m_heldOften_77, .ref m_work_78, .ref m_primeSeconds_79, .int 0, .long 0, .ref m_row_80, .int 0, .ref m_groupSize_81, .ref m_place_82, .ref m_stood_83, .ref m_history_84, .ref m_groupHistory_85, .int 0, .int 0, .int 0, .int 0, .ref m_didRide_86, .ref m_toldRow_87, .ref m_passedBy_88, .ref m_total_89, .ref m_points_90, .ref m_used_91]))]) [0, 56] (by decide) rfl
      refine lv_aload_n hx hb dL_law_559 rfl (lv_at hl 2 rfl) ?_
      refine lv_aload_n hx hb dL_law_560 rfl (lv_at hl 3 rfl) ?_
      refine lv_iload_n hx hb dL_law_561 rfl (lv_at hl 0 rfl) ?_
      refine lv_iconst (v := 1) hx hb dL_law_562 (by decide) ?_
      refine lv_iadd hx hb dL_law_563 ?_
      refine lv_topi (fun v_291 ev_291 => ?_)
      obtain rfl : v_291 = 1 := ev_291.trans (by decide)
      refine va_sld hx hb hX hbl hbA hS (zz_in (a := (1:Int)) (by decide) (by omega) (by omega)) dL_law_564 ?_
      refine lv_aload_n hx hb dL_law_565 rfl (lv_at hl 3 rfl) ?_
      refine lv_iload_n hx hb dL_law_566 rfl (lv_at hl 0 rfl) ?_
      refine lv_iconst (v := 2) hx hb dL_law_567 (by decide) ?_
      refine lv_iadd hx hb dL_law_568 ?_
      refine lv_topi (fun v_292 ev_292 => ?_)
      obtain rfl : v_292 = 2 := ev_292.trans (by decide)
      refine va_sld hx hb hX hbl hbA hS (zz_in (a := (2:Int)) (by decide) (by omega) (by omega)) dL_law_569 ?_
      have hPc := hP.sub (ws' := [(q_1, .inr (9, [.ref x_riders_2, .ref x_road_7, .ref x_tape_11, .ref x_book_13, .ref x_reader_19, .ref x_latest_20, .ref x_log_35, .ref x_trial_38, .ref x_stages_53, .int 0, .int 0, .int 0]))]) [0] rfl
      have hDc := hD.sub (ws' := [(q_1, .inr (9, [.ref x_riders_2, .ref x_road_7, .ref x_tape_11, .ref x_book_13, .ref x_reader_19, .ref x_latest_20, .ref x_log_35, .ref x_trial_38, .ref x_stages_53, .int 0, .int 0, .int 0]))]) [0] (by decide) rfl
      have hFc := va_free (wc := [(q_1, .inr (9, [.ref x_riders_2, .ref x_road_7, .ref x_tape_11, .ref x_book_13, .ref x_reader_19, .ref x_latest_20, .ref x_log_35, .ref x_trial_38, .ref x_stages_53, .int 0, .int 0, .int 0]))]) hD hS hA [0] rfl
      refine va_calli (va_runV (As := [.int (xs (Int32.toNatClampNeg 1)), .int (xs (Int32.toNatClampNeg 2))]) (rest := []) ⟨hx, hb, hml, hown, hts⟩ (c_X9_passed l dC dI cI cZ (H).size q_1 x_riders_2 x_road_7 x_tape_11 x_book_13 x_reader_19 x_latest_20 x_log_35 x_trial_38 x_stages_53 (xs (Int32.toNatClampNeg 1)) ((xs (Int32.toNatClampNeg 1)).toInt) rfl (xs (Int32.toNatClampNeg 2)) ((xs (Int32.toNatClampNeg 2)).toInt) rfl) ⟨callB_of 2 hts (zz_goodL zw_628) rfl rfl rfl hw2 hw89 (by decide +kernel) ⟨Nat.le_of_ble_eq_true rfl, Nat.le_of_ble_eq_true rfl⟩, hw90, hw91⟩ ⟨fun a U g mk q => by obtain ⟨q0, q1, qP, qK, qD⟩ := q; exact ⟨q0, q1, qP, va_K.moved (u := U) (U := U.calling g mk a) (Vm.Alike.refl U.vm) qK, qD⟩, va_recv hK hPc (ci := 9) (q0 := 0) rfl rfl, fun U hU hW => ⟨rfl, by rw [hU], by rw [hU]; exact hPc, va_K.moved hW.alike hK, hDc.weaken (fun _ _ _ _ => trivial)⟩⟩ rfl rfl hl.1 rfl (lv_room (Nat.le_of_ble_eq_true rfl)) dL_law_570 ⟨Nat.le_of_ble_eq_true rfl, Nat.le_of_ble_eq_true rfl⟩) hS (fun q _ h => hFc q h) hFc (fun r_293 u t H1 locs ht hvm hpost hB hz1 hk1 hS => ?_)
      subst hpost
      obtain ⟨hf_294, hP1, hK1, hD1⟩ := hB
      rw [ht] at hP1
      obtain ⟨hP, hD⟩ := va_join (wr := [(q_57, .inr (10, [.int 0, .int 1, .int 0, .int (-1), .int 0, .int 0, .int 0, .int 20, .ref m_teamOf_58, .ref m_steady_59, .ref m_full_60, .ref m_climb_61, .ref m_rises_62, .ref m_winds_63, .ref m_primeAt_64, .ref m_tape_65, .int 0, .int 0, .int 0, .ref m_clauses_66, .ref m_letter_67, .ref m_sign_68, .ref m_bar_69, .ref m_pace_70, .ref m_rides_71, .ref m_isOut_72, .ref m_metre_73, .ref m_charge_74, .ref m_held_75, .ref m_seconds_76, .ref m_heldOften_77, .ref m_work_78, .ref m_primeSeconds_79, .int 0, .long 0, .ref m_row_80, .int 0, .ref m_groupSize_81, .ref m_place_82, .ref m_stood_83, .ref m_history_84, .ref m_groupHistory_85, .int 0, .int 0, .int 0, .int 0, .ref m_didRide_86, .ref m_toldRow_87, .ref m_passedBy_88, .ref m_total_89, .ref m_points_90, .ref m_used_91]))]) (w1 := []) hP hD [0] [1] rfl rfl (by decide) (by decide) hk1 hFc hP1 hD1
      generalize H1 = H at hP hS ⊢
      have hP : va_P (dC, dI) vwCl [(q_57, .inr (10, [.int 0, .int 1, .int 0, .int (-1), .int 0, .int 0, .int 0, .int 20, .ref m_teamOf_58, .ref m_steady_59, .ref m_full_60, .ref m_climb_61, .ref m_rises_62, .ref m_winds_63, .ref m_primeAt_64, .ref m_tape_65, .int 0, .int 0, .int 0, .ref m_clauses_66, .ref m_letter_67, .ref m_sign_68, .ref m_bar_69, .ref m_pace_70, .ref m_rides_71, .ref m_isOut_72, .ref m_metre_73, .ref m_charge_74, .ref m_held_75, .ref m_seconds_76, .ref m_heldOften_77, .ref m_work_78, .ref m_primeSeconds_79, .int 0, .long 0, .ref m_row_80, .int 0, .ref m_groupSize_81, .ref m_place_82, .ref m_stood_83, .ref m_history_84, .ref m_groupHistory_85, .int 0, .int 0, .int 0, .int 0, .ref m_didRide_86, .ref m_toldRow_87, .ref m_passedBy_88, .ref m_total_89, .ref m_points_90, .ref m_used_91]))] H := hP
      have hD : va_D (fun q : Nat => s.heap.size ≤ q) [(q_57, .inr (10, [.int 0, .int 1, .int 0, .int (-1), .int 0, .int 0, .int 0, .int 20, .ref m_teamOf_58, .ref m_steady_59, .ref m_full_60, .ref m_climb_61, .ref m_rises_62, .ref m_winds_63, .ref m_primeAt_64, .ref m_tape_65, .int 0, .int 0, .int 0, .ref m_clauses_66, .ref m_letter_67, .ref m_sign_68, .ref m_bar_69, .ref m_pace_70, .ref m_rides_71, .ref m_isOut_72, .ref m_metre_73, .ref m_charge_74, .ref m_held_75, .ref m_seconds_76, .ref m_heldOften_77, .ref m_work_78, .ref m_primeSeconds_79, .int 0, .long 0, .ref m_row_80, .int 0, .ref m_groupSize_81, .ref m_place_82, .ref m_stood_83, .ref m_history_84, .ref m_groupHistory_85, .int 0, .int 0, .int 0, .int 0, .ref m_didRide_86, .ref m_toldRow_87, .ref m_passedBy_88, .ref m_total_89, .ref m_points_90, .ref m_used_91]))] := hD
      have hf_294 : r_293.toInt = -1 := hf_294
      obtain rfl : r_293 = (-1) := Int32.toInt_inj.mp (hf_294.trans (by decide))
      refine lv_aload_n hx hb dL_law_573 rfl (lv_at hl 1 rfl) ?_
      refine lv_aload_n hx hb dL_law_574 rfl (lv_at hl 3 rfl) ?_
      refine lv_iload_n hx hb dL_law_575 rfl (lv_at hl 0 rfl) ?_
      refine lv_iconst (v := 1) hx hb dL_law_576 (by decide) ?_
      refine lv_iadd hx hb dL_law_577 ?_
      refine lv_topi (fun v_295 ev_295 => ?_)
      obtain rfl : v_295 = 1 := ev_295.trans (by decide)
      refine va_sld hx hb hX hbl hbA hS (zz_in (a := (1:Int)) (by decide) (by omega) (by omega)) dL_law_578 ?_
      refine lv_aload_n hx hb dL_law_579 rfl (lv_at hl 3 rfl) ?_
      refine lv_iload_n hx hb dL_law_580 rfl (lv_at hl 0 rfl) ?_
      refine lv_iconst (v := 2) hx hb dL_law_581 (by decide) ?_
      refine lv_iadd hx hb dL_law_582 ?_
      refine lv_topi (fun v_296 ev_296 => ?_)
      obtain rfl : v_296 = 2 := ev_296.trans (by decide)
      refine va_sld hx hb hX hbl hbA hS (zz_in (a := (2:Int)) (by decide) (by omega) (by omega)) dL_law_583 ?_
      have hPc := hP.sub (ws' := [(q_57, .inr (10, [.int 0, .int 1, .int 0, .int (-1), .int 0, .int 0, .int 0, .int 20, .ref m_teamOf_58, .ref m_steady_59, .ref m_full_60, .ref m_climb_61, .ref m_rises_62, .ref m_winds_63, .ref m_primeAt_64, .ref m_tape_65, .int 0, .int 0, .int 0, .ref m_clauses_66, .ref m_letter_67, .ref m_sign_68, .ref m_bar_69, .ref m_pace_70, .ref m_rides_71, .ref m_isOut_72, .ref m_metre_73, .ref m_charge_74, .ref m_held_75, .ref m_seconds_76, .ref m_heldOften_77, .ref m_work_78, .ref m_primeSeconds_79, .int 0, .long 0, .ref m_row_80, .int 0, .ref m_groupSize_81, .ref m_place_82, .ref m_stood_83, .ref m_history_84, .ref m_groupHistory_85, .int 0, .int 0, .int 0, .int 0, .ref m_didRide_86, .ref m_toldRow_87, .ref m_passedBy_88, .ref m_total_89, .ref m_points_90, .ref m_used_91]))]) [0] rfl
      have hDc := hD.sub (ws' := [(q_57, .inr (10, [.int 0, .int 1, .int 0, .int (-1), .int 0, .int 0, .int 0, .int 20, .ref m_teamOf_58, .ref m_steady_59, .ref m_full_60, .ref m_climb_61, .ref m_rises_62, .ref m_winds_63, .ref m_primeAt_64, .ref m_tape_65, .int 0, .int 0, .int 0, .ref m_clauses_66, .ref m_letter_67, .ref m_sign_68, .ref m_bar_69, .ref m_pace_70, .ref m_rides_71, .ref m_isOut_72, .ref m_metre_73, .ref m_charge_74, .ref m_held_75, .ref m_seconds_76, .ref m_heldOften_77, .ref m_work_78, .ref m_primeSeconds_79, .int 0, .long 0, .ref m_row_80, .int 0, .ref m_groupSize_81, .ref m_place_82, .ref m_stood_83, .ref m_history_84, .ref m_groupHistory_85, .int 0, .int 0, .int 0, .int 0, .ref m_didRide_86, .ref m_toldRow_87, .ref m_passedBy_88, .ref m_total_89, .ref m_points_90, .ref m_used_91]))]) [0] (by decide) rfl
      have hFc := va_free (wc := [(q_57, .inr (10, [.int 0, .int 1, .int 0, .int (-1), .int 0, .int 0, .int 0, .int 20, .ref m_teamOf_58, .ref m_steady_59, .ref m_full_60, .ref m_climb_61, .ref m_rises_62, .ref m_winds_63, .ref m_primeAt_64, .ref m_tape_65, .int 0, .int 0, .int 0, .ref m_clauses_66, .ref m_letter_67, .ref m_sign_68, .ref m_bar_69, .ref m_pace_70, .ref m_rides_71, .ref m_isOut_72, .ref m_metre_73, .ref m_charge_74, .ref m_held_75, .ref m_seconds_76, .ref m_heldOften_77, .ref m_work_78, .ref m_primeSeconds_79, .int 0, .long 0, .ref m_row_80, .int 0, .ref m_groupSize_81, .ref m_place_82, .ref m_stood_83, .ref m_history_84, .ref m_groupHistory_85, .int 0, .int 0, .int 0, .int 0, .ref m_didRide_86, .ref m_toldRow_87, .ref m_passedBy_88, .ref m_total_89, .ref m_points_90, .ref m_used_91]))]) hD hS hA [0] rfl
      refine va_calli (va_runV (As := [.int (xs (Int32.toNatClampNeg 1)), .int (xs (Int32.toNatClampNeg 2))]) (rest := [.int (-1)]) ⟨hx, hb, hml, hown, hts⟩ (c_X10_passed l dC dI cI cZ (H).size q_57 m_teamOf_58 m_steady_59 m_full_60 m_climb_61 m_rises_62 m_winds_63 m_primeAt_64 m_tape_65 m_clauses_66 m_letter_67 m_sign_68 m_bar_69 m_pace_70 m_rides_71 m_isOut_72 m_metre_73 m_charge_74 m_held_75 m_seconds_76 m_heldOften_77 m_work_78 m_primeSeconds_79 m_row_80 m_groupSize_81 m_place_82 m_stood_83 m_history_84 m_groupHistory_85 m_didRide_86 m_toldRow_87 m_passedBy_88 m_total_89 m_points_90 m_used_91 (xs (Int32.toNatClampNeg 1)) ((xs (Int32.toNatClampNeg 1)).toInt) rfl (xs (Int32.toNatClampNeg 2)) ((xs (Int32.toNatClampNeg 2)).toInt) rfl) ⟨callB_of 2 hts (zz_goodL zw_1040) rfl rfl rfl hw7 hw92 (by decide +kernel) ⟨Nat.le_of_ble_eq_true rfl, Nat.le_of_ble_eq_true rfl⟩, hw93, hw94⟩ ⟨fun a U g mk q => by obtain ⟨q0, q1, qP, qK, qD⟩ := q; exact ⟨q0, q1, qP, va_K.moved (u := U) (U := U.calling g mk a) (Vm.Alike.refl U.vm) qK, qD⟩, va_recv hK hPc (ci := 10) (q0 := 0) rfl rfl, fun U hU hW => ⟨rfl, by rw [hU], by rw [hU]; exact hPc, va_K.moved hW.alike hK, hDc.weaken (fun _ _ _ _ => trivial)⟩⟩ rfl rfl hl.1 rfl (lv_room (Nat.le_of_ble_eq_true rfl)) dL_law_584 ⟨Nat.le_of_ble_eq_true rfl, Nat.le_of_ble_eq_true rfl⟩) hS (fun q _ h => hFc q h) hFc (fun r_297 u t H1 locs ht hvm hpost hB hz1 hk1 hS => ?_)
      subst hpost
      obtain ⟨hf_298, hP1, hK1, hD1⟩ := hB
      rw [ht] at hP1
      obtain ⟨hP, hD⟩ := va_join (wr := []) (w1 := []) hP hD [0] [] rfl rfl (by decide) (by decide) hk1 hFc hP1 hD1
      generalize H1 = H at hP hS ⊢
      have hP : va_P (dC, dI) vwCl [] H := hP
      have hD : va_D (fun q : Nat => s.heap.size ≤ q) [] := hD
      have hf_298 : r_297.toInt = -1 := hf_298
      obtain rfl : r_297 = (-1) := Int32.toInt_inj.mp (hf_298.trans (by decide))
      refine lv_icmp_eq (tgt := 931) hx hb dL_law_587 (by decide) (fun c_299 => ?_) (fun c_299 => ?_)
      ·
        refine lv_iinc (v := 7) (lv' := [(3, .int 7), (2, .ref q_57), (1, .ref q_1), (0, .ref b)]) hx hb dL_law_931 hl (k := 0) rfl (by decide) (by decide) rfl (fun ls hl => ?_)
        refine lv_goto (tgt := 18) hx hb dL_law_934 (by decide) ?_
        refine lv_iload_n hx hb dL_law_18 rfl (lv_at hl 0 rfl) ?_
        refine lv_aload_n hx hb dL_law_19 rfl (lv_at hl 3 rfl) ?_
        refine va_slen hx hb hX hbl hbA hS dL_law_20 ?_
        refine lv_bipush (v := 7) hx hb dL_law_21 (by decide) ?_
        refine lv_isub hx hb dL_law_23 ?_
        refine lv_topi (fun v_300 ev_300 => ?_)
        have hv_300 : v_300.toInt = ((L : Int) - (7:Int)) := by rw [ev_300]; exact zz_subI (nI_toInt (by omega)) (by decide) (by omega) (by omega)
        refine lv_icmp_gt (tgt := 937) hx hb dL_law_24 (by decide) (fun c_301 => ?_) (fun c_301 => ?_)
        ·
          have c_301 : ((L : Int) - (7:Int)) < (7:Int) := zz_lt hv_300 (by decide) c_301
          refine lv_iconst (v := 1) hx hb dL_law_937 (by decide) ?_
          refine va_forget (fun q hq => hS.2.2 q hq) ?_
          refine W.widen (k := 91) (n := 20364) (Nat.le_of_ble_eq_true rfl) (Nat.le_of_ble_eq_true rfl) ?_
          exact lw_ret hx hb hr hlocks dL_law_938
        ·
          have c_301 : ¬ (((L : Int) - (7:Int)) < (7:Int)) := zz_ltn hv_300 (by decide) c_301
          exact absurd c_301 (by omega)
      ·
        exact absurd c_299 (by decide)
    ·
      refine lv_tableIn (tgt := 592) (off := 559) hx hb dL_law_33 (by rw [hs_95]; omega) (by rw [hs_95]; omega) (by rw [hs_95, q_96]; rfl) (by decide) ?_
      have hP := hP.sub (ws' := [(q_1, .inr (9, [.ref x_riders_2, .ref x_road_7, .ref x_tape_11, .ref x_book_13, .ref x_reader_19, .ref x_latest_20, .ref x_log_35, .ref x_trial_38, .ref x_stages_53, .int 0, .int 0, .int 0])), (q_57, .inr (10, [.int 0, .int 1, .int 0, .int (-1), .int 0, .int 0, .int 0, .int 20, .ref m_teamOf_58, .ref m_steady_59, .ref m_full_60, .ref m_climb_61, .ref m_rises_62, .ref m_winds_63, .ref m_primeAt_64, .ref m_tape_65, .int 0, .int 0, .int 0, .ref m_clauses_66, .ref m_letter_67, .ref m_sign_68, .ref m_bar_69, .ref m_pace_70, .ref m_rides_71, .ref m_isOut_72, .ref m_metre_73, .ref m_charge_74, .ref m_held_75, .ref m_seconds_76, .ref m_heldOften_77, .ref m_work_78, .ref m_primeSeconds_79, .int 0, .long 0, .ref m_row_80, .int 0, .ref m_groupSize_81, .ref m_place_82, .ref m_stood_83, .ref m_history_84, .ref m_groupHistory_85, .int 0, .int 0, .int 0, .int 0, .ref m_didRide_86, .ref m_toldRow_87, .ref m_passedBy_88, .ref m_total_89, .ref m_points_90, .ref m_used_91]))]) [0, 56] rfl
      have hD := hD.sub (ws' := [(q_1, .inr (9, [.ref x_riders_2, .ref x_road_7, .ref x_tape_11, .ref x_book_13, .ref x_reader_19, .ref x_latest_20, .ref x_log_35, .ref x_trial_38, .ref x_stages_53, .int 0, .int 0, .int 0])), (q_57, .inr (10, [.int 0, .int 1, .int 0, .int (-1), .int 0, .int 0, .int 0, .int 20, .ref m_teamOf_58, .ref m_steady_59, .ref m_full_60, .ref m_climb_61, .ref m_rises_62, .ref m_winds_63, .ref m_primeAt_64, .ref m_tape_65, .int 0, .int 0, .int 0, .ref m_clauses_66, .ref m_letter_67, .ref m_sign_68, .ref m_bar_69, .ref m_pace_70, .ref m_rides_71, .ref m_isOut_72, .ref m_metre_73, .ref m_charge_74, .ref m_held_75, .ref m_seconds_76, .ref m_heldOften_77, .ref m_work_78, .ref m_primeSeconds_79, .int 0, .long 0, .ref m_row_80, .int 0, .ref m_groupSize_81, .ref m_place_82, .ref m_stood_83, .ref m_history_84, .ref m_groupHistory_85, .int 0, .int 0, .int 0, .int 0, .ref m_didRide_86, .ref m_toldRow_87, .ref m_passedBy_88, .ref m_total_89, .ref m_points_90, .ref m_used_91]))]) [0, 56] (by decide) rfl
      refine lv_aload_n hx hb dL_law_592 rfl (lv_at hl 2 rfl) ?_
      refine lv_aload_n hx hb dL_law_593 rfl (lv_at hl 3 rfl) ?_
      refine lv_iload_n hx hb dL_law_594 rfl (lv_at hl 0 rfl) ?_
      refine lv_iconst (v := 1) hx hb dL_law_595 (by decide) ?_
      refine lv_iadd hx hb dL_law_596 ?_
      refine lv_topi (fun v_302 ev_302 => ?_)
      obtain rfl : v_302 = 1 := ev_302.trans (by decide)
      refine va_sld hx hb hX hbl hbA hS (zz_in (a := (1:Int)) (by decide) (by omega) (by omega)) dL_law_597 ?_
      refine lv_aload_n hx hb dL_law_598 rfl (lv_at hl 3 rfl) ?_
      refine lv_iload_n hx hb dL_law_599 rfl (lv_at hl 0 rfl) ?_
      refine lv_iconst (v := 2) hx hb dL_law_600 (by decide) ?_
      refine lv_iadd hx hb dL_law_601 ?_
      refine lv_topi (fun v_303 ev_303 => ?_)
      obtain rfl : v_303 = 2 := ev_303.trans (by decide)
      refine va_sld hx hb hX hbl hbA hS (zz_in (a := (2:Int)) (by decide) (by omega) (by omega)) dL_law_602 ?_
      have hPc := hP.sub (ws' := [(q_1, .inr (9, [.ref x_riders_2, .ref x_road_7, .ref x_tape_11, .ref x_book_13, .ref x_reader_19, .ref x_latest_20, .ref x_log_35, .ref x_trial_38, .ref x_stages_53, .int 0, .int 0, .int 0]))]) [0] rfl
      have hDc := hD.sub (ws' := [(q_1, .inr (9, [.ref x_riders_2, .ref x_road_7, .ref x_tape_11, .ref x_book_13, .ref x_reader_19, .ref x_latest_20, .ref x_log_35, .ref x_trial_38, .ref x_stages_53, .int 0, .int 0, .int 0]))]) [0] (by decide) rfl
      have hFc := va_free (wc := [(q_1, .inr (9, [.ref x_riders_2, .ref x_road_7, .ref x_tape_11, .ref x_book_13, .ref x_reader_19, .ref x_latest_20, .ref x_log_35, .ref x_trial_38, .ref x_stages_53, .int 0, .int 0, .int 0]))]) hD hS hA [0] rfl
      refine va_calli (va_runV (As := [.int (xs (Int32.toNatClampNeg 1)), .int (xs (Int32.toNatClampNeg 2))]) (rest := []) ⟨hx, hb, hml, hown, hts⟩ (c_X9_metres l dC dI cI cZ (H).size q_1 x_riders_2 x_road_7 x_tape_11 x_book_13 x_reader_19 x_latest_20 x_log_35 x_trial_38 x_stages_53 (xs (Int32.toNatClampNeg 1)) ((xs (Int32.toNatClampNeg 1)).toInt) rfl (xs (Int32.toNatClampNeg 2)) ((xs (Int32.toNatClampNeg 2)).toInt) rfl) ⟨callB_of 2 hts (zz_goodL zw_636) rfl rfl rfl hw2 hw95 (by decide +kernel) ⟨Nat.le_of_ble_eq_true rfl, Nat.le_of_ble_eq_true rfl⟩, hw96, hw97⟩ ⟨fun a U g mk q => by obtain ⟨q0, q1, qP, qK, qD⟩ := q; exact ⟨q0, q1, qP, va_K.moved (u := U) (U := U.calling g mk a) (Vm.Alike.refl U.vm) qK, qD⟩, va_recv hK hPc (ci := 9) (q0 := 0) rfl rfl, fun U hU hW => ⟨rfl, by rw [hU], by rw [hU]; exact hPc, va_K.moved hW.alike hK, hDc.weaken (fun _ _ _ _ => trivial)⟩⟩ rfl rfl hl.1 rfl (lv_room (Nat.le_of_ble_eq_true rfl)) dL_law_603 ⟨Nat.le_of_ble_eq_true rfl, Nat.le_of_ble_eq_true rfl⟩) hS (fun q _ h => hFc q h) hFc (fun r_304 u t H1 locs ht hvm hpost hB hz1 hk1 hS => ?_)
      subst hpost
      obtain ⟨hf_305, hP1, hK1, hD1⟩ := hB
      rw [ht] at hP1
      obtain ⟨hP, hD⟩ := va_join (wr := [(q_57, .inr (10, [.int 0, .int 1, .int 0, .int (-1), .int 0, .int 0, .int 0, .int 20, .ref m_teamOf_58, .ref m_steady_59, .ref m_full_60, .ref m_climb_61, .ref m_rises_62, .ref m_winds_63, .ref m_primeAt_64, .ref m_tape_65, .int 0, .int 0, .int 0, .ref m_clauses_66, .ref m_letter_67, .ref m_sign_68, .ref m_bar_69, .ref m_pace_70, .ref m_rides_71, .ref m_isOut_72, .ref m_metre_73, .ref m_charge_74, .ref m_held_75, .ref m_seconds_76, .ref m_heldOften_77, .ref m_work_78, .ref m_primeSeconds_79, .int 0, .long 0, .ref m_row_80, .int 0, .ref m_groupSize_81, .ref m_place_82, .ref m_stood_83, .ref m_history_84, .ref m_groupHistory_85, .int 0, .int 0, .int 0, .int 0, .ref m_didRide_86, .ref m_toldRow_87, .ref m_passedBy_88, .ref m_total_89, .ref m_points_90, .ref m_used_91]))]) (w1 := []) hP hD [0] [1] rfl rfl (by decide) (by decide) hk1 hFc hP1 hD1
      generalize H1 = H at hP hS ⊢
      have hP : va_P (dC, dI) vwCl [(q_57, .inr (10, [.int 0, .int 1, .int 0, .int (-1), .int 0, .int 0, .int 0, .int 20, .ref m_teamOf_58, .ref m_steady_59, .ref m_full_60, .ref m_climb_61, .ref m_rises_62, .ref m_winds_63, .ref m_primeAt_64, .ref m_tape_65, .int 0, .int 0, .int 0, .ref m_clauses_66, .ref m_letter_67, .ref m_sign_68, .ref m_bar_69, .ref m_pace_70, .ref m_rides_71, .ref m_isOut_72, .ref m_metre_73, .ref m_charge_74, .ref m_held_75, .ref m_seconds_76, .ref m_heldOften_77, .ref m_work_78, .ref m_primeSeconds_79, .int 0, .long 0, .ref m_row_80, .int 0, .ref m_groupSize_81, .ref m_place_82, .ref m_stood_83, .ref m_history_84, .ref m_groupHistory_85, .int 0, .int 0, .int 0, .int 0, .ref m_didRide_86, .ref m_toldRow_87, .ref m_passedBy_88, .ref m_total_89, .ref m_points_90, .ref m_used_91]))] H := hP
      have hD : va_D (fun q : Nat => s.heap.size ≤ q) [(q_57, .inr (10, [.int 0, .int 1, .int 0, .int (-1), .int 0, .int 0, .int 0, .int 20, .ref m_teamOf_58, .ref m_steady_59, .ref m_full_60, .ref m_climb_61, .ref m_rises_62, .ref m_winds_63, .ref m_primeAt_64, .ref m_tape_65, .int 0, .int 0, .int 0, .ref m_clauses_66, .ref m_letter_67, .ref m_sign_68, .ref m_bar_69, .ref m_pace_70, .ref m_rides_71, .ref m_isOut_72, .ref m_metre_73, .ref m_charge_74, .ref m_held_75, .ref m_seconds_76, .ref m_heldOften_77, .ref m_work_78, .ref m_primeSeconds_79, .int 0, .long 0, .ref m_row_80, .int 0, .ref m_groupSize_81, .ref m_place_82, .ref m_stood_83, .ref m_history_84, .ref m_groupHistory_85, .int 0, .int 0, .int 0, .int 0, .ref m_didRide_86, .ref m_toldRow_87, .ref m_passedBy_88, .ref m_total_89, .ref m_points_90, .ref m_used_91]))] := hD
      have hf_305 : r_304.toInt = -1 := hf_305
      obtain rfl : r_304 = (-1) := Int32.toInt_inj.mp (hf_305.trans (by decide))
      refine lv_aload_n hx hb dL_law_606 rfl (lv_at hl 1 rfl) ?_
      refine lv_aload_n hx hb dL_law_607 rfl (lv_at hl 3 rfl) ?_
      refine lv_iload_n hx hb dL_law_608 rfl (lv_at hl 0 rfl) ?_
      refine lv_iconst (v := 1) hx hb dL_law_609 (by decide) ?_
      refine lv_iadd hx hb dL_law_610 ?_
      refine lv_topi (fun v_306 ev_306 => ?_)
      obtain rfl : v_306 = 1 := ev_306.trans (by decide)
      refine va_sld hx hb hX hbl hbA hS (zz_in (a := (1:Int)) (by decide) (by omega) (by omega)) dL_law_611 ?_
      refine lv_aload_n hx hb dL_law_612 rfl (lv_at hl 3 rfl) ?_
      refine lv_iload_n hx hb dL_law_613 rfl (lv_at hl 0 rfl) ?_
      refine lv_iconst (v := 2) hx hb dL_law_614 (by decide) ?_
      refine lv_iadd hx hb dL_law_615 ?_
      refine lv_topi (fun v_307 ev_307 => ?_)
      obtain rfl : v_307 = 2 := ev_307.trans (by decide)
      refine va_sld hx hb hX hbl hbA hS (zz_in (a := (2:Int)) (by decide) (by omega) (by omega)) dL_law_616 ?_
      have hPc := hP.sub (ws' := [(q_57, .inr (10, [.int 0, .int 1, .int 0, .int (-1), .int 0, .int 0, .int 0, .int 20, .ref m_teamOf_58, .ref m_steady_59, .ref m_full_60, .ref m_climb_61, .ref m_rises_62, .ref m_winds_63, .ref m_primeAt_64, .ref m_tape_65, .int 0, .int 0, .int 0, .ref m_clauses_66, .ref m_letter_67, .ref m_sign_68, .ref m_bar_69, .ref m_pace_70, .ref m_rides_71, .ref m_isOut_72, .ref m_metre_73, .ref m_charge_74, .ref m_held_75, .ref m_seconds_76, .ref m_heldOften_77, .ref m_work_78, .ref m_primeSeconds_79, .int 0, .long 0, .ref m_row_80, .int 0, .ref m_groupSize_81, .ref m_place_82, .ref m_stood_83, .ref m_history_84, .ref m_groupHistory_85, .int 0, .int 0, .int 0, .int 0, .ref m_didRide_86, .ref m_toldRow_87, .ref m_passedBy_88, .ref m_total_89, .ref m_points_90, .ref m_used_91]))]) [0] rfl
      have hDc := hD.sub (ws' := [(q_57, .inr (10, [.int 0, .int 1, .int 0, .int (-1), .int 0, .int 0, .int 0, .int 20, .ref m_teamOf_58, .ref m_steady_59, .ref m_full_60, .ref m_climb_61, .ref m_rises_62, .ref m_winds_63, .ref m_primeAt_64, .ref m_tape_65, .int 0, .int 0, .int 0, .ref m_clauses_66, .ref m_letter_67, .ref m_sign_68, .ref m_bar_69, .ref m_pace_70, .ref m_rides_71, .ref m_isOut_72, .ref m_metre_73, .ref m_charge_74, .ref m_held_75, .ref m_seconds_76, .ref m_heldOften_77, .ref m_work_78, .ref m_primeSeconds_79, .int 0, .long 0, .ref m_row_80, .int 0, .ref m_groupSize_81, .ref m_place_82, .ref m_stood_83, .ref m_history_84, .ref m_groupHistory_85, .int 0, .int 0, .int 0, .int 0, .ref m_didRide_86, .ref m_toldRow_87, .ref m_passedBy_88, .ref m_total_89, .ref m_points_90, .ref m_used_91]))]) [0] (by decide) rfl
      have hFc := va_free (wc := [(q_57, .inr (10, [.int 0, .int 1, .int 0, .int (-1), .int 0, .int 0, .int 0, .int 20, .ref m_teamOf_58, .ref m_steady_59, .ref m_full_60, .ref m_climb_61, .ref m_rises_62, .ref m_winds_63, .ref m_primeAt_64, .ref m_tape_65, .int 0, .int 0, .int 0, .ref m_clauses_66, .ref m_letter_67, .ref m_sign_68, .ref m_bar_69, .ref m_pace_70, .ref m_rides_71, .ref m_isOut_72, .ref m_metre_73, .ref m_charge_74, .ref m_held_75, .ref m_seconds_76, .ref m_heldOften_77, .ref m_work_78, .ref m_primeSeconds_79, .int 0, .long 0, .ref m_row_80, .int 0, .ref m_groupSize_81, .ref m_place_82, .ref m_stood_83, .ref m_history_84, .ref m_groupHistory_85, .int 0, .int 0, .int 0, .int 0, .ref m_didRide_86, .ref m_toldRow_87, .ref m_passedBy_88, .ref m_total_89, .ref m_points_90, .ref m_used_91]))]) hD hS hA [0] rfl
      refine va_calli (va_runV (As := [.int (xs (Int32.toNatClampNeg 1)), .int (xs (Int32.toNatClampNeg 2))]) (rest := [.int (-1)]) ⟨hx, hb, hml, hown, hts⟩ (c_X10_metres l dC dI cI cZ (H).size q_57 m_teamOf_58 m_steady_59 m_full_60 m_climb_61 m_rises_62 m_winds_63 m_primeAt_64 m_tape_65 m_clauses_66 m_letter_67 m_sign_68 m_bar_69 m_pace_70 m_rides_71 m_isOut_72 m_metre_73 m_charge_74 m_held_75 m_seconds_76 m_heldOften_77 m_work_78 m_primeSeconds_79 m_row_80 m_groupSize_81 m_place_82 m_stood_83 m_history_84 m_groupHistory_85 m_didRide_86 m_toldRow_87 m_passedBy_88 m_total_89 m_points_90 m_used_91 (xs (Int32.toNatClampNeg 1)) ((xs (Int32.toNatClampNeg 1)).toInt) rfl (xs (Int32.toNatClampNeg 2)) ((xs (Int32.toNatClampNeg 2)).toInt) rfl) ⟨callB_of 2 hts (zz_goodL zw_1044) rfl rfl rfl hw7 hw98 (by decide +kernel) ⟨Nat.le_of_ble_eq_true rfl, Nat.le_of_ble_eq_true rfl⟩, hw99, hw100⟩ ⟨fun a U g mk q => by obtain ⟨q0, q1, qP, qK, qD⟩ := q; exact ⟨q0, q1, qP, va_K.moved (u := U) (U := U.calling g mk a) (Vm.Alike.refl U.vm) qK, qD⟩, va_recv hK hPc (ci := 10) (q0 := 0) rfl rfl, fun U hU hW => ⟨rfl, by rw [hU], by rw [hU]; exact hPc, va_K.moved hW.alike hK, hDc.weaken (fun _ _ _ _ => trivial)⟩⟩ rfl rfl hl.1 rfl (lv_room (Nat.le_of_ble_eq_true rfl)) dL_law_617 ⟨Nat.le_of_ble_eq_true rfl, Nat.le_of_ble_eq_true rfl⟩) hS (fun q _ h => hFc q h) hFc (fun r_308 u t H1 locs ht hvm hpost hB hz1 hk1 hS => ?_)
      subst hpost
      obtain ⟨hf_309, hP1, hK1, hD1⟩ := hB
      rw [ht] at hP1
      obtain ⟨hP, hD⟩ := va_join (wr := []) (w1 := []) hP hD [0] [] rfl rfl (by decide) (by decide) hk1 hFc hP1 hD1
      generalize H1 = H at hP hS ⊢
      have hP : va_P (dC, dI) vwCl [] H := hP
      have hD : va_D (fun q : Nat => s.heap.size ≤ q) [] := hD
      have hf_309 : r_308.toInt = -1 := hf_309
      obtain rfl : r_308 = (-1) := Int32.toInt_inj.mp (hf_309.trans (by decide))
      refine lv_icmp_eq (tgt := 931) hx hb dL_law_620 (by decide) (fun c_310 => ?_) (fun c_310 => ?_)
      ·
        refine lv_iinc (v := 7) (lv' := [(3, .int 7), (2, .ref q_57), (1, .ref q_1), (0, .ref b)]) hx hb dL_law_931 hl (k := 0) rfl (by decide) (by decide) rfl (fun ls hl => ?_)
        refine lv_goto (tgt := 18) hx hb dL_law_934 (by decide) ?_
        refine lv_iload_n hx hb dL_law_18 rfl (lv_at hl 0 rfl) ?_
        refine lv_aload_n hx hb dL_law_19 rfl (lv_at hl 3 rfl) ?_
        refine va_slen hx hb hX hbl hbA hS dL_law_20 ?_
        refine lv_bipush (v := 7) hx hb dL_law_21 (by decide) ?_
        refine lv_isub hx hb dL_law_23 ?_
        refine lv_topi (fun v_311 ev_311 => ?_)
        have hv_311 : v_311.toInt = ((L : Int) - (7:Int)) := by rw [ev_311]; exact zz_subI (nI_toInt (by omega)) (by decide) (by omega) (by omega)
        refine lv_icmp_gt (tgt := 937) hx hb dL_law_24 (by decide) (fun c_312 => ?_) (fun c_312 => ?_)
        ·
          have c_312 : ((L : Int) - (7:Int)) < (7:Int) := zz_lt hv_311 (by decide) c_312
          refine lv_iconst (v := 1) hx hb dL_law_937 (by decide) ?_
          refine va_forget (fun q hq => hS.2.2 q hq) ?_
          refine W.widen (k := 91) (n := 20364) (Nat.le_of_ble_eq_true rfl) (Nat.le_of_ble_eq_true rfl) ?_
          exact lw_ret hx hb hr hlocks dL_law_938
        ·
          have c_312 : ¬ (((L : Int) - (7:Int)) < (7:Int)) := zz_ltn hv_311 (by decide) c_312
          exact absurd c_312 (by omega)
      ·
        exact absurd c_310 (by decide)
    ·
      refine lv_tableIn (tgt := 625) (off := 592) hx hb dL_law_33 (by rw [hs_95]; omega) (by rw [hs_95]; omega) (by rw [hs_95, q_96]; rfl) (by decide) ?_
      have hP := hP.sub (ws' := [(q_1, .inr (9, [.ref x_riders_2, .ref x_road_7, .ref x_tape_11, .ref x_book_13, .ref x_reader_19, .ref x_latest_20, .ref x_log_35, .ref x_trial_38, .ref x_stages_53, .int 0, .int 0, .int 0])), (q_57, .inr (10, [.int 0, .int 1, .int 0, .int (-1), .int 0, .int 0, .int 0, .int 20, .ref m_teamOf_58, .ref m_steady_59, .ref m_full_60, .ref m_climb_61, .ref m_rises_62, .ref m_winds_63, .ref m_primeAt_64, .ref m_tape_65, .int 0, .int 0, .int 0, .ref m_clauses_66, .ref m_letter_67, .ref m_sign_68, .ref m_bar_69, .ref m_pace_70, .ref m_rides_71, .ref m_isOut_72, .ref m_metre_73, .ref m_charge_74, .ref m_held_75, .ref m_seconds_76, .ref m_heldOften_77, .ref m_work_78, .ref m_primeSeconds_79, .int 0, .long 0, .ref m_row_80, .int 0, .ref m_groupSize_81, .ref m_place_82, .ref m_stood_83, .ref m_history_84, .ref m_groupHistory_85, .int 0, .int 0, .int 0, .int 0, .ref m_didRide_86, .ref m_toldRow_87, .ref m_passedBy_88, .ref m_total_89, .ref m_points_90, .ref m_used_91]))]) [0, 56] rfl
      have hD := hD.sub (ws' := [(q_1, .inr (9, [.ref x_riders_2, .ref x_road_7, .ref x_tape_11, .ref x_book_13, .ref x_reader_19, .ref x_latest_20, .ref x_log_35, .ref x_trial_38, .ref x_stages_53, .int 0, .int 0, .int 0])), (q_57, .inr (10, [.int 0, .int 1, .int 0, .int (-1), .int 0, .int 0, .int 0, .int 20, .ref m_teamOf_58, .ref m_steady_59, .ref m_full_60, .ref m_climb_61, .ref m_rises_62, .ref m_winds_63, .ref m_primeAt_64, .ref m_tape_65, .int 0, .int 0, .int 0, .ref m_clauses_66, .ref m_letter_67, .ref m_sign_68, .ref m_bar_69, .ref m_pace_70, .ref m_rides_71, .ref m_isOut_72, .ref m_metre_73, .ref m_charge_74, .ref m_held_75, .ref m_seconds_76, .ref m_heldOften_77, .ref m_work_78, .ref m_primeSeconds_79, .int 0, .long 0, .ref m_row_80, .int 0, .ref m_groupSize_81, .ref m_place_82, .ref m_stood_83, .ref m_history_84, .ref m_groupHistory_85, .int 0, .int 0, .int 0, .int 0, .ref m_didRide_86, .ref m_toldRow_87, .ref m_passedBy_88, .ref m_total_89, .ref m_points_90, .ref m_used_91]))]) [0, 56] (by decide) rfl
      refine lv_aload_n hx hb dL_law_625 rfl (lv_at hl 2 rfl) ?_
      refine lv_aload_n hx hb dL_law_626 rfl (lv_at hl 3 rfl) ?_
      refine lv_iload_n hx hb dL_law_627 rfl (lv_at hl 0 rfl) ?_
      refine lv_iconst (v := 1) hx hb dL_law_628 (by decide) ?_
      refine lv_iadd hx hb dL_law_629 ?_
      refine lv_topi (fun v_313 ev_313 => ?_)
      obtain rfl : v_313 = 1 := ev_313.trans (by decide)
      refine va_sld hx hb hX hbl hbA hS (zz_in (a := (1:Int)) (by decide) (by omega) (by omega)) dL_law_630 ?_
      have hPc := hP.sub (ws' := [(q_1, .inr (9, [.ref x_riders_2, .ref x_road_7, .ref x_tape_11, .ref x_book_13, .ref x_reader_19, .ref x_latest_20, .ref x_log_35, .ref x_trial_38, .ref x_stages_53, .int 0, .int 0, .int 0]))]) [0] rfl
      have hDc := hD.sub (ws' := [(q_1, .inr (9, [.ref x_riders_2, .ref x_road_7, .ref x_tape_11, .ref x_book_13, .ref x_reader_19, .ref x_latest_20, .ref x_log_35, .ref x_trial_38, .ref x_stages_53, .int 0, .int 0, .int 0]))]) [0] (by decide) rfl
      have hFc := va_free (wc := [(q_1, .inr (9, [.ref x_riders_2, .ref x_road_7, .ref x_tape_11, .ref x_book_13, .ref x_reader_19, .ref x_latest_20, .ref x_log_35, .ref x_trial_38, .ref x_stages_53, .int 0, .int 0, .int 0]))]) hD hS hA [0] rfl
      refine va_calli (va_runV (As := [.int (xs (Int32.toNatClampNeg 1))]) (rest := []) ⟨hx, hb, hml, hown, hts⟩ (c_X9_groups l dC dI cI cZ (H).size q_1 x_riders_2 x_road_7 x_tape_11 x_book_13 x_reader_19 x_latest_20 x_log_35 x_trial_38 x_stages_53 (xs (Int32.toNatClampNeg 1)) ((xs (Int32.toNatClampNeg 1)).toInt) rfl) ⟨callB_of 1 hts (zz_goodL zw_644) rfl rfl rfl hw2 hw101 (by decide +kernel) ⟨Nat.le_of_ble_eq_true rfl, Nat.le_of_ble_eq_true rfl⟩, hw102, hw103⟩ ⟨fun a U g mk q => by obtain ⟨q0, q1, qP, qK, qD⟩ := q; exact ⟨q0, q1, qP, va_K.moved (u := U) (U := U.calling g mk a) (Vm.Alike.refl U.vm) qK, qD⟩, va_recv hK hPc (ci := 9) (q0 := 0) rfl rfl, fun U hU hW => ⟨rfl, by rw [hU], by rw [hU]; exact hPc, va_K.moved hW.alike hK, hDc.weaken (fun _ _ _ _ => trivial)⟩⟩ rfl rfl hl.1 rfl (lv_room (Nat.le_of_ble_eq_true rfl)) dL_law_631 ⟨Nat.le_of_ble_eq_true rfl, Nat.le_of_ble_eq_true rfl⟩) hS (fun q _ h => hFc q h) hFc (fun r_314 u t H1 locs ht hvm hpost hB hz1 hk1 hS => ?_)
      subst hpost
      obtain ⟨hf_315, hP1, hK1, hD1⟩ := hB
      rw [ht] at hP1
      obtain ⟨hP, hD⟩ := va_join (wr := [(q_57, .inr (10, [.int 0, .int 1, .int 0, .int (-1), .int 0, .int 0, .int 0, .int 20, .ref m_teamOf_58, .ref m_steady_59, .ref m_full_60, .ref m_climb_61, .ref m_rises_62, .ref m_winds_63, .ref m_primeAt_64, .ref m_tape_65, .int 0, .int 0, .int 0, .ref m_clauses_66, .ref m_letter_67, .ref m_sign_68, .ref m_bar_69, .ref m_pace_70, .ref m_rides_71, .ref m_isOut_72, .ref m_metre_73, .ref m_charge_74, .ref m_held_75, .ref m_seconds_76, .ref m_heldOften_77, .ref m_work_78, .ref m_primeSeconds_79, .int 0, .long 0, .ref m_row_80, .int 0, .ref m_groupSize_81, .ref m_place_82, .ref m_stood_83, .ref m_history_84, .ref m_groupHistory_85, .int 0, .int 0, .int 0, .int 0, .ref m_didRide_86, .ref m_toldRow_87, .ref m_passedBy_88, .ref m_total_89, .ref m_points_90, .ref m_used_91]))]) (w1 := []) hP hD [0] [1] rfl rfl (by decide) (by decide) hk1 hFc hP1 hD1
      generalize H1 = H at hP hS ⊢
      have hP : va_P (dC, dI) vwCl [(q_57, .inr (10, [.int 0, .int 1, .int 0, .int (-1), .int 0, .int 0, .int 0, .int 20, .ref m_teamOf_58, .ref m_steady_59, .ref m_full_60, .ref m_climb_61, .ref m_rises_62, .ref m_winds_63, .ref m_primeAt_64, .ref m_tape_65, .int 0, .int 0, .int 0, .ref m_clauses_66, .ref m_letter_67, .ref m_sign_68, .ref m_bar_69, .ref m_pace_70, .ref m_rides_71, .ref m_isOut_72, .ref m_metre_73, .ref m_charge_74, .ref m_held_75, .ref m_seconds_76, .ref m_heldOften_77, .ref m_work_78, .ref m_primeSeconds_79, .int 0, .long 0, .ref m_row_80, .int 0, .ref m_groupSize_81, .ref m_place_82, .ref m_stood_83, .ref m_history_84, .ref m_groupHistory_85, .int 0, .int 0, .int 0, .int 0, .ref m_didRide_86, .ref m_toldRow_87, .ref m_passedBy_88, .ref m_total_89, .ref m_points_90, .ref m_used_91]))] H := hP
      have hD : va_D (fun q : Nat => s.heap.size ≤ q) [(q_57, .inr (10, [.int 0, .int 1, .int 0, .int (-1), .int 0, .int 0, .int 0, .int 20, .ref m_teamOf_58, .ref m_steady_59, .ref m_full_60, .ref m_climb_61, .ref m_rises_62, .ref m_winds_63, .ref m_primeAt_64, .ref m_tape_65, .int 0, .int 0, .int 0, .ref m_clauses_66, .ref m_letter_67, .ref m_sign_68, .ref m_bar_69, .ref m_pace_70, .ref m_rides_71, .ref m_isOut_72, .ref m_metre_73, .ref m_charge_74, .ref m_held_75, .ref m_seconds_76, .ref m_heldOften_77, .ref m_work_78, .ref m_primeSeconds_79, .int 0, .long 0, .ref m_row_80, .int 0, .ref m_groupSize_81, .ref m_place_82, .ref m_stood_83, .ref m_history_84, .ref m_groupHistory_85, .int 0, .int 0, .int 0, .int 0, .ref m_didRide_86, .ref m_toldRow_87, .ref m_passedBy_88, .ref m_total_89, .ref m_points_90, .ref m_used_91]))] := hD
      have hf_315 : r_314.toInt = -1 := hf_315
      obtain rfl : r_314 = (-1) := Int32.toInt_inj.mp (hf_315.trans (by decide))
      refine lv_aload_n hx hb dL_law_634 rfl (lv_at hl 1 rfl) ?_
      refine lv_aload_n hx hb dL_law_635 rfl (lv_at hl 3 rfl) ?_
      refine lv_iload_n hx hb dL_law_636 rfl (lv_at hl 0 rfl) ?_
      refine lv_iconst (v := 1) hx hb dL_law_637 (by decide) ?_
      refine lv_iadd hx hb dL_law_638 ?_
      refine lv_topi (fun v_316 ev_316 => ?_)
      obtain rfl : v_316 = 1 := ev_316.trans (by decide)
      refine va_sld hx hb hX hbl hbA hS (zz_in (a := (1:Int)) (by decide) (by omega) (by omega)) dL_law_639 ?_
      have hPc := hP.sub (ws' := [(q_57, .inr (10, [.int 0, .int 1, .int 0, .int (-1), .int 0, .int 0, .int 0, .int 20, .ref m_teamOf_58, .ref m_steady_59, .ref m_full_60, .ref m_climb_61, .ref m_rises_62, .ref m_winds_63, .ref m_primeAt_64, .ref m_tape_65, .int 0, .int 0, .int 0, .ref m_clauses_66, .ref m_letter_67, .ref m_sign_68, .ref m_bar_69, .ref m_pace_70, .ref m_rides_71, .ref m_isOut_72, .ref m_metre_73, .ref m_charge_74, .ref m_held_75, .ref m_seconds_76, .ref m_heldOften_77, .ref m_work_78, .ref m_primeSeconds_79, .int 0, .long 0, .ref m_row_80, .int 0, .ref m_groupSize_81, .ref m_place_82, .ref m_stood_83, .ref m_history_84, .ref m_groupHistory_85, .int 0, .int 0, .int 0, .int 0, .ref m_didRide_86, .ref m_toldRow_87, .ref m_passedBy_88, .ref m_total_89, .ref m_points_90, .ref m_used_91]))]) [0] rfl
      have hDc := hD.sub (ws' := [(q_57, .inr (10, [.int 0, .int 1, .int 0, .int (-1), .int 0, .int 0, .int 0, .int 20, .ref m_teamOf_58, .ref m_steady_59, .ref m_full_60, .ref m_climb_61, .ref m_rises_62, .ref m_winds_63, .ref m_primeAt_64, .ref m_tape_65, .int 0, .int 0, .int 0, .ref m_clauses_66, .ref m_letter_67, .ref m_sign_68, .ref m_bar_69, .ref m_pace_70, .ref m_rides_71, .ref m_isOut_72, .ref m_metre_73, .ref m_charge_74, .ref m_held_75, .ref m_seconds_76, .ref m_heldOften_77, .ref m_work_78, .ref m_primeSeconds_79, .int 0, .long 0, .ref m_row_80, .int 0, .ref m_groupSize_81, .ref m_place_82, .ref m_stood_83, .ref m_history_84, .ref m_groupHistory_85, .int 0, .int 0, .int 0, .int 0, .ref m_didRide_86, .ref m_toldRow_87, .ref m_passedBy_88, .ref m_total_89, .ref m_points_90, .ref m_used_91]))]) [0] (by decide) rfl
      have hFc := va_free (wc := [(q_57, .inr (10, [.int 0, .int 1, .int 0, .int (-1), .int 0, .int 0, .int 0, .int 20, .ref m_teamOf_58, .ref m_steady_59, .ref m_full_60, .ref m_climb_61, .ref m_rises_62, .ref m_winds_63, .ref m_primeAt_64, .ref m_tape_65, .int 0, .int 0, .int 0, .ref m_clauses_66, .ref m_letter_67, .ref m_sign_68, .ref m_bar_69, .ref m_pace_70, .ref m_rides_71, .ref m_isOut_72, .ref m_metre_73, .ref m_charge_74, .ref m_held_75, .ref m_seconds_76, .ref m_heldOften_77, .ref m_work_78, .ref m_primeSeconds_79, .int 0, .long 0, .ref m_row_80, .int 0, .ref m_groupSize_81, .ref m_place_82, .ref m_stood_83, .ref m_history_84, .ref m_groupHistory_85, .int 0, .int 0, .int 0, .int 0, .ref m_didRide_86, .ref m_toldRow_87, .ref m_passedBy_88, .ref m_total_89, .ref m_points_90, .ref m_used_91]))]) hD hS hA [0] rfl
      refine va_calli (va_runV (As := [.int (xs (Int32.toNatClampNeg 1))]) (rest := [.int (-1)]) ⟨hx, hb, hml, hown, hts⟩ (c_X10_groups l dC dI cI cZ (H).size q_57 m_teamOf_58 m_steady_59 m_full_60 m_climb_61 m_rises_62 m_winds_63 m_primeAt_64 m_tape_65 m_clauses_66 m_letter_67 m_sign_68 m_bar_69 m_pace_70 m_rides_71 m_isOut_72 m_metre_73 m_charge_74 m_held_75 m_seconds_76 m_heldOften_77 m_work_78 m_primeSeconds_79 m_row_80 m_groupSize_81 m_place_82 m_stood_83 m_history_84 m_groupHistory_85 m_didRide_86 m_toldRow_87 m_passedBy_88 m_total_89 m_points_90 m_used_91 (xs (Int32.toNatClampNeg 1)) ((xs (Int32.toNatClampNeg 1)).toInt) rfl) ⟨callB_of 1 hts (zz_goodL zw_1048) rfl rfl rfl hw7 hw104 (by decide +kernel) ⟨Nat.le_of_ble_eq_true rfl, Nat.le_of_ble_eq_true rfl⟩, hw105, hw106⟩ ⟨fun a U g mk q => by obtain ⟨q0, q1, qP, qK, qD⟩ := q; exact ⟨q0, q1, qP, va_K.moved (u := U) (U := U.calling g mk a) (Vm.Alike.refl U.vm) qK, qD⟩, va_recv hK hPc (ci := 10) (q0 := 0) rfl rfl, fun U hU hW => ⟨rfl, by rw [hU], by rw [hU]; exact hPc, va_K.moved hW.alike hK, hDc.weaken (fun _ _ _ _ => trivial)⟩⟩ rfl rfl hl.1 rfl (lv_room (Nat.le_of_ble_eq_true rfl)) dL_law_640 ⟨Nat.le_of_ble_eq_true rfl, Nat.le_of_ble_eq_true rfl⟩) hS (fun q _ h => hFc q h) hFc (fun r_317 u t H1 locs ht hvm hpost hB hz1 hk1 hS => ?_)
      subst hpost
      obtain ⟨hf_318, hP1, hK1, hD1⟩ := hB
      rw [ht] at hP1
      obtain ⟨hP, hD⟩ := va_join (wr := []) (w1 := []) hP hD [0] [] rfl rfl (by decide) (by decide) hk1 hFc hP1 hD1
      generalize H1 = H at hP hS ⊢
      have hP : va_P (dC, dI) vwCl [] H := hP
      have hD : va_D (fun q : Nat => s.heap.size ≤ q) [] := hD
      have hf_318 : r_317.toInt = -1 := hf_318
      obtain rfl : r_317 = (-1) := Int32.toInt_inj.mp (hf_318.trans (by decide))
      refine lv_icmp_eq (tgt := 931) hx hb dL_law_643 (by decide) (fun c_319 => ?_) (fun c_319 => ?_)
      ·
        refine lv_iinc (v := 7) (lv' := [(3, .int 7), (2, .ref q_57), (1, .ref q_1), (0, .ref b)]) hx hb dL_law_931 hl (k := 0) rfl (by decide) (by decide) rfl (fun ls hl => ?_)
        refine lv_goto (tgt := 18) hx hb dL_law_934 (by decide) ?_
        refine lv_iload_n hx hb dL_law_18 rfl (lv_at hl 0 rfl) ?_
        refine lv_aload_n hx hb dL_law_19 rfl (lv_at hl 3 rfl) ?_
        refine va_slen hx hb hX hbl hbA hS dL_law_20 ?_
        refine lv_bipush (v := 7) hx hb dL_law_21 (by decide) ?_
        refine lv_isub hx hb dL_law_23 ?_
        refine lv_topi (fun v_320 ev_320 => ?_)
        have hv_320 : v_320.toInt = ((L : Int) - (7:Int)) := by rw [ev_320]; exact zz_subI (nI_toInt (by omega)) (by decide) (by omega) (by omega)
        refine lv_icmp_gt (tgt := 937) hx hb dL_law_24 (by decide) (fun c_321 => ?_) (fun c_321 => ?_)
        ·
          have c_321 : ((L : Int) - (7:Int)) < (7:Int) := zz_lt hv_320 (by decide) c_321
          refine lv_iconst (v := 1) hx hb dL_law_937 (by decide) ?_
          refine va_forget (fun q hq => hS.2.2 q hq) ?_
          refine W.widen (k := 91) (n := 20364) (Nat.le_of_ble_eq_true rfl) (Nat.le_of_ble_eq_true rfl) ?_
          exact lw_ret hx hb hr hlocks dL_law_938
        ·
          have c_321 : ¬ (((L : Int) - (7:Int)) < (7:Int)) := zz_ltn hv_320 (by decide) c_321
          exact absurd c_321 (by omega)
      ·
        exact absurd c_319 (by decide)
    ·
      refine lv_tableIn (tgt := 648) (off := 615) hx hb dL_law_33 (by rw [hs_95]; omega) (by rw [hs_95]; omega) (by rw [hs_95, q_96]; rfl) (by decide) ?_
      have hP := hP.sub (ws' := [(q_1, .inr (9, [.ref x_riders_2, .ref x_road_7, .ref x_tape_11, .ref x_book_13, .ref x_reader_19, .ref x_latest_20, .ref x_log_35, .ref x_trial_38, .ref x_stages_53, .int 0, .int 0, .int 0])), (q_57, .inr (10, [.int 0, .int 1, .int 0, .int (-1), .int 0, .int 0, .int 0, .int 20, .ref m_teamOf_58, .ref m_steady_59, .ref m_full_60, .ref m_climb_61, .ref m_rises_62, .ref m_winds_63, .ref m_primeAt_64, .ref m_tape_65, .int 0, .int 0, .int 0, .ref m_clauses_66, .ref m_letter_67, .ref m_sign_68, .ref m_bar_69, .ref m_pace_70, .ref m_rides_71, .ref m_isOut_72, .ref m_metre_73, .ref m_charge_74, .ref m_held_75, .ref m_seconds_76, .ref m_heldOften_77, .ref m_work_78, .ref m_primeSeconds_79, .int 0, .long 0, .ref m_row_80, .int 0, .ref m_groupSize_81, .ref m_place_82, .ref m_stood_83, .ref m_history_84, .ref m_groupHistory_85, .int 0, .int 0, .int 0, .int 0, .ref m_didRide_86, .ref m_toldRow_87, .ref m_passedBy_88, .ref m_total_89, .ref m_points_90, .ref m_used_91]))]) [0, 56] rfl
      have hD := hD.sub (ws' := [(q_1, .inr (9, [.ref x_riders_2, .ref x_road_7, .ref x_tape_11, .ref x_book_13, .ref x_reader_19, .ref x_latest_20, .ref x_log_35, .ref x_trial_38, .ref x_stages_53, .int 0, .int 0, .int 0])), (q_57, .inr (10, [.int 0, .int 1, .int 0, .int (-1), .int 0, .int 0, .int 0, .int 20, .ref m_teamOf_58, .ref m_steady_59, .ref m_full_60, .ref m_climb_61, .ref m_rises_62, .ref m_winds_63, .ref m_primeAt_64, .ref m_tape_65, .int 0, .int 0, .int 0, .ref m_clauses_66, .ref m_letter_67, .ref m_sign_68, .ref m_bar_69, .ref m_pace_70, .ref m_rides_71, .ref m_isOut_72, .ref m_metre_73, .ref m_charge_74, .ref m_held_75, .ref m_seconds_76, .ref m_heldOften_77, .ref m_work_78, .ref m_primeSeconds_79, .int 0, .long 0, .ref m_row_80, .int 0, .ref m_groupSize_81, .ref m_place_82, .ref m_stood_83, .ref m_history_84, .ref m_groupHistory_85, .int 0, .int 0, .int 0, .int 0, .ref m_didRide_86, .ref m_toldRow_87, .ref m_passedBy_88, .ref m_total_89, .ref m_points_90, .ref m_used_91]))]) [0, 56] (by decide) rfl
      refine lv_aload_n hx hb dL_law_648 rfl (lv_at hl 2 rfl) ?_
      have hPc := hP.sub (ws' := [(q_1, .inr (9, [.ref x_riders_2, .ref x_road_7, .ref x_tape_11, .ref x_book_13, .ref x_reader_19, .ref x_latest_20, .ref x_log_35, .ref x_trial_38, .ref x_stages_53, .int 0, .int 0, .int 0]))]) [0] rfl
      have hDc := hD.sub (ws' := [(q_1, .inr (9, [.ref x_riders_2, .ref x_road_7, .ref x_tape_11, .ref x_book_13, .ref x_reader_19, .ref x_latest_20, .ref x_log_35, .ref x_trial_38, .ref x_stages_53, .int 0, .int 0, .int 0]))]) [0] (by decide) rfl
      have hFc := va_free (wc := [(q_1, .inr (9, [.ref x_riders_2, .ref x_road_7, .ref x_tape_11, .ref x_book_13, .ref x_reader_19, .ref x_latest_20, .ref x_log_35, .ref x_trial_38, .ref x_stages_53, .int 0, .int 0, .int 0]))]) hD hS hA [0] rfl
      refine va_calli (va_runV (As := []) (rest := []) ⟨hx, hb, hml, hown, hts⟩ (c_X9_keep l dC dI cI cZ (H).size q_1 x_riders_2 x_road_7 x_tape_11 x_book_13 x_reader_19 x_latest_20 x_log_35 x_trial_38 x_stages_53) ⟨callB_of 0 hts (zz_goodL zw_648) rfl rfl rfl hw2 hw107 (by decide +kernel) ⟨Nat.le_of_ble_eq_true rfl, Nat.le_of_ble_eq_true rfl⟩, hw108, hw109⟩ ⟨fun a U g mk q => by obtain ⟨q0, q1, qP, qK, qD⟩ := q; exact ⟨q0, q1, qP, va_K.moved (u := U) (U := U.calling g mk a) (Vm.Alike.refl U.vm) qK, qD⟩, va_recv hK hPc (ci := 9) (q0 := 0) rfl rfl, fun U hU hW => ⟨rfl, by rw [hU], by rw [hU]; exact hPc, va_K.moved hW.alike hK, hDc.weaken (fun _ _ _ _ => trivial)⟩⟩ rfl rfl hl.1 rfl (lv_room (Nat.le_of_ble_eq_true rfl)) dL_law_649 ⟨Nat.le_of_ble_eq_true rfl, Nat.le_of_ble_eq_true rfl⟩) hS (fun q _ h => hFc q h) hFc (fun r_322 u t H1 locs ht hvm hpost hB hz1 hk1 hS => ?_)
      subst hpost
      obtain ⟨hf_323, hP1, hK1, hD1⟩ := hB
      rw [ht] at hP1
      obtain ⟨hP, hD⟩ := va_join (wr := [(q_57, .inr (10, [.int 0, .int 1, .int 0, .int (-1), .int 0, .int 0, .int 0, .int 20, .ref m_teamOf_58, .ref m_steady_59, .ref m_full_60, .ref m_climb_61, .ref m_rises_62, .ref m_winds_63, .ref m_primeAt_64, .ref m_tape_65, .int 0, .int 0, .int 0, .ref m_clauses_66, .ref m_letter_67, .ref m_sign_68, .ref m_bar_69, .ref m_pace_70, .ref m_rides_71, .ref m_isOut_72, .ref m_metre_73, .ref m_charge_74, .ref m_held_75, .ref m_seconds_76, .ref m_heldOften_77, .ref m_work_78, .ref m_primeSeconds_79, .int 0, .long 0, .ref m_row_80, .int 0, .ref m_groupSize_81, .ref m_place_82, .ref m_stood_83, .ref m_history_84, .ref m_groupHistory_85, .int 0, .int 0, .int 0, .int 0, .ref m_didRide_86, .ref m_toldRow_87, .ref m_passedBy_88, .ref m_total_89, .ref m_points_90, .ref m_used_91]))]) (w1 := []) hP hD [0] [1] rfl rfl (by decide) (by decide) hk1 hFc hP1 hD1
      generalize H1 = H at hP hS ⊢
      have hP : va_P (dC, dI) vwCl [(q_57, .inr (10, [.int 0, .int 1, .int 0, .int (-1), .int 0, .int 0, .int 0, .int 20, .ref m_teamOf_58, .ref m_steady_59, .ref m_full_60, .ref m_climb_61, .ref m_rises_62, .ref m_winds_63, .ref m_primeAt_64, .ref m_tape_65, .int 0, .int 0, .int 0, .ref m_clauses_66, .ref m_letter_67, .ref m_sign_68, .ref m_bar_69, .ref m_pace_70, .ref m_rides_71, .ref m_isOut_72, .ref m_metre_73, .ref m_charge_74, .ref m_held_75, .ref m_seconds_76, .ref m_heldOften_77, .ref m_work_78, .ref m_primeSeconds_79, .int 0, .long 0, .ref m_row_80, .int 0, .ref m_groupSize_81, .ref m_place_82, .ref m_stood_83, .ref m_history_84, .ref m_groupHistory_85, .int 0, .int 0, .int 0, .int 0, .ref m_didRide_86, .ref m_toldRow_87, .ref m_passedBy_88, .ref m_total_89, .ref m_points_90, .ref m_used_91]))] H := hP
      have hD : va_D (fun q : Nat => s.heap.size ≤ q) [(q_57, .inr (10, [.int 0, .int 1, .int 0, .int (-1), .int 0, .int 0, .int 0, .int 20, .ref m_teamOf_58, .ref m_steady_59, .ref m_full_60, .ref m_climb_61, .ref m_rises_62, .ref m_winds_63, .ref m_primeAt_64, .ref m_tape_65, .int 0, .int 0, .int 0, .ref m_clauses_66, .ref m_letter_67, .ref m_sign_68, .ref m_bar_69, .ref m_pace_70, .ref m_rides_71, .ref m_isOut_72, .ref m_metre_73, .ref m_charge_74, .ref m_held_75, .ref m_seconds_76, .ref m_heldOften_77, .ref m_work_78, .ref m_primeSeconds_79, .int 0, .long 0, .ref m_row_80, .int 0, .ref m_groupSize_81, .ref m_place_82, .ref m_stood_83, .ref m_history_84, .ref m_groupHistory_85, .int 0, .int 0, .int 0, .int 0, .ref m_didRide_86, .ref m_toldRow_87, .ref m_passedBy_88, .ref m_total_89, .ref m_points_90, .ref m_used_91]))] := hD
      have hf_323 : r_322.toInt = -1 := hf_323
      obtain rfl : r_322 = (-1) := Int32.toInt_inj.mp (hf_323.trans (by decide))
      refine lv_aload_n hx hb dL_law_652 rfl (lv_at hl 1 rfl) ?_
      have hPc := hP.sub (ws' := [(q_57, .inr (10, [.int 0, .int 1, .int 0, .int (-1), .int 0, .int 0, .int 0, .int 20, .ref m_teamOf_58, .ref m_steady_59, .ref m_full_60, .ref m_climb_61, .ref m_rises_62, .ref m_winds_63, .ref m_primeAt_64, .ref m_tape_65, .int 0, .int 0, .int 0, .ref m_clauses_66, .ref m_letter_67, .ref m_sign_68, .ref m_bar_69, .ref m_pace_70, .ref m_rides_71, .ref m_isOut_72, .ref m_metre_73, .ref m_charge_74, .ref m_held_75, .ref m_seconds_76, .ref m_heldOften_77, .ref m_work_78, .ref m_primeSeconds_79, .int 0, .long 0, .ref m_row_80, .int 0, .ref m_groupSize_81, .ref m_place_82, .ref m_stood_83, .ref m_history_84, .ref m_groupHistory_85, .int 0, .int 0, .int 0, .int 0, .ref m_didRide_86, .ref m_toldRow_87, .ref m_passedBy_88, .ref m_total_89, .ref m_points_90, .ref m_used_91]))]) [0] rfl
      have hDc := hD.sub (ws' := [(q_57, .inr (10, [.int 0, .int 1, .int 0, .int (-1), .int 0, .int 0, .int 0, .int 20, .ref m_teamOf_58, .ref m_steady_59, .ref m_full_60, .ref m_climb_61, .ref m_rises_62, .ref m_winds_63, .ref m_primeAt_64, .ref m_tape_65, .int 0, .int 0, .int 0, .ref m_clauses_66, .ref m_letter_67, .ref m_sign_68, .ref m_bar_69, .ref m_pace_70, .ref m_rides_71, .ref m_isOut_72, .ref m_metre_73, .ref m_charge_74, .ref m_held_75, .ref m_seconds_76, .ref m_heldOften_77, .ref m_work_78, .ref m_primeSeconds_79, .int 0, .long 0, .ref m_row_80, .int 0, .ref m_groupSize_81, .ref m_place_82, .ref m_stood_83, .ref m_history_84, .ref m_groupHistory_85, .int 0, .int 0, .int 0, .int 0, .ref m_didRide_86, .ref m_toldRow_87, .ref m_passedBy_88, .ref m_total_89, .ref m_points_90, .ref m_used_91]))]) [0] (by decide) rfl
      have hFc := va_free (wc := [(q_57, .inr (10, [.int 0, .int 1, .int 0, .int (-1), .int 0, .int 0, .int 0, .int 20, .ref m_teamOf_58, .ref m_steady_59, .ref m_full_60, .ref m_climb_61, .ref m_rises_62, .ref m_winds_63, .ref m_primeAt_64, .ref m_tape_65, .int 0, .int 0, .int 0, .ref m_clauses_66, .ref m_letter_67, .ref m_sign_68, .ref m_bar_69, .ref m_pace_70, .ref m_rides_71, .ref m_isOut_72, .ref m_metre_73, .ref m_charge_74, .ref m_held_75, .ref m_seconds_76, .ref m_heldOften_77, .ref m_work_78, .ref m_primeSeconds_79, .int 0, .long 0, .ref m_row_80, .int 0, .ref m_groupSize_81, .ref m_place_82, .ref m_stood_83, .ref m_history_84, .ref m_groupHistory_85, .int 0, .int 0, .int 0, .int 0, .ref m_didRide_86, .ref m_toldRow_87, .ref m_passedBy_88, .ref m_total_89, .ref m_points_90, .ref m_used_91]))]) hD hS hA [0] rfl
      refine va_calli (va_runV (As := []) (rest := [.int (-1)]) ⟨hx, hb, hml, hown, hts⟩ (c_X10_keep l dC dI cI cZ (H).size q_57 m_teamOf_58 m_steady_59 m_full_60 m_climb_61 m_rises_62 m_winds_63 m_primeAt_64 m_tape_65 m_clauses_66 m_letter_67 m_sign_68 m_bar_69 m_pace_70 m_rides_71 m_isOut_72 m_metre_73 m_charge_74 m_held_75 m_seconds_76 m_heldOften_77 m_work_78 m_primeSeconds_79 m_row_80 m_groupSize_81 m_place_82 m_stood_83 m_history_84 m_groupHistory_85 m_didRide_86 m_toldRow_87 m_passedBy_88 m_total_89 m_points_90 m_used_91) ⟨callB_of 0 hts (zz_goodL zw_1052) rfl rfl rfl hw7 hw110 (by decide +kernel) ⟨Nat.le_of_ble_eq_true rfl, Nat.le_of_ble_eq_true rfl⟩, hw111, hw112⟩ ⟨fun a U g mk q => by obtain ⟨q0, q1, qP, qK, qD⟩ := q; exact ⟨q0, q1, qP, va_K.moved (u := U) (U := U.calling g mk a) (Vm.Alike.refl U.vm) qK, qD⟩, va_recv hK hPc (ci := 10) (q0 := 0) rfl rfl, fun U hU hW => ⟨rfl, by rw [hU], by rw [hU]; exact hPc, va_K.moved hW.alike hK, hDc.weaken (fun _ _ _ _ => trivial)⟩⟩ rfl rfl hl.1 rfl (lv_room (Nat.le_of_ble_eq_true rfl)) dL_law_653 ⟨Nat.le_of_ble_eq_true rfl, Nat.le_of_ble_eq_true rfl⟩) hS (fun q _ h => hFc q h) hFc (fun r_324 u t H1 locs ht hvm hpost hB hz1 hk1 hS => ?_)
      subst hpost
      obtain ⟨hf_325, hP1, hK1, hD1⟩ := hB
      rw [ht] at hP1
      obtain ⟨hP, hD⟩ := va_join (wr := []) (w1 := []) hP hD [0] [] rfl rfl (by decide) (by decide) hk1 hFc hP1 hD1
      generalize H1 = H at hP hS ⊢
      have hP : va_P (dC, dI) vwCl [] H := hP
      have hD : va_D (fun q : Nat => s.heap.size ≤ q) [] := hD
      have hf_325 : r_324.toInt = -1 := hf_325
      obtain rfl : r_324 = (-1) := Int32.toInt_inj.mp (hf_325.trans (by decide))
      refine lv_icmp_eq (tgt := 931) hx hb dL_law_656 (by decide) (fun c_326 => ?_) (fun c_326 => ?_)
      ·
        refine lv_iinc (v := 7) (lv' := [(3, .int 7), (2, .ref q_57), (1, .ref q_1), (0, .ref b)]) hx hb dL_law_931 hl (k := 0) rfl (by decide) (by decide) rfl (fun ls hl => ?_)
        refine lv_goto (tgt := 18) hx hb dL_law_934 (by decide) ?_
        refine lv_iload_n hx hb dL_law_18 rfl (lv_at hl 0 rfl) ?_
        refine lv_aload_n hx hb dL_law_19 rfl (lv_at hl 3 rfl) ?_
        refine va_slen hx hb hX hbl hbA hS dL_law_20 ?_
        refine lv_bipush (v := 7) hx hb dL_law_21 (by decide) ?_
        refine lv_isub hx hb dL_law_23 ?_
        refine lv_topi (fun v_327 ev_327 => ?_)
        have hv_327 : v_327.toInt = ((L : Int) - (7:Int)) := by rw [ev_327]; exact zz_subI (nI_toInt (by omega)) (by decide) (by omega) (by omega)
        refine lv_icmp_gt (tgt := 937) hx hb dL_law_24 (by decide) (fun c_328 => ?_) (fun c_328 => ?_)
        ·
          have c_328 : ((L : Int) - (7:Int)) < (7:Int) := zz_lt hv_327 (by decide) c_328
          refine lv_iconst (v := 1) hx hb dL_law_937 (by decide) ?_
          refine va_forget (fun q hq => hS.2.2 q hq) ?_
          refine W.widen (k := 91) (n := 20364) (Nat.le_of_ble_eq_true rfl) (Nat.le_of_ble_eq_true rfl) ?_
          exact lw_ret hx hb hr hlocks dL_law_938
        ·
          have c_328 : ¬ (((L : Int) - (7:Int)) < (7:Int)) := zz_ltn hv_327 (by decide) c_328
          exact absurd c_328 (by omega)
      ·
        exact absurd c_326 (by decide)
    ·
      refine lv_tableIn (tgt := 661) (off := 628) hx hb dL_law_33 (by rw [hs_95]; omega) (by rw [hs_95]; omega) (by rw [hs_95, q_96]; rfl) (by decide) ?_
      have hP := hP.sub (ws' := [(q_1, .inr (9, [.ref x_riders_2, .ref x_road_7, .ref x_tape_11, .ref x_book_13, .ref x_reader_19, .ref x_latest_20, .ref x_log_35, .ref x_trial_38, .ref x_stages_53, .int 0, .int 0, .int 0])), (x_stages_53, .inr (7, [.int 0, .int 20, .ref x_sg_totals_54, .ref x_sg_points_55, .ref x_sg_out_56])), (x_sg_totals_54, .inl (cI, 20, .inl (fun _ => 0))), (x_sg_points_55, .inl (cI, 20, .inl (fun _ => 0))), (x_sg_out_56, .inl (cZ, 20, .inl (fun _ => 0))), (q_57, .inr (10, [.int 0, .int 1, .int 0, .int (-1), .int 0, .int 0, .int 0, .int 20, .ref m_teamOf_58, .ref m_steady_59, .ref m_full_60, .ref m_climb_61, .ref m_rises_62, .ref m_winds_63, .ref m_primeAt_64, .ref m_tape_65, .int 0, .int 0, .int 0, .ref m_clauses_66, .ref m_letter_67, .ref m_sign_68, .ref m_bar_69, .ref m_pace_70, .ref m_rides_71, .ref m_isOut_72, .ref m_metre_73, .ref m_charge_74, .ref m_held_75, .ref m_seconds_76, .ref m_heldOften_77, .ref m_work_78, .ref m_primeSeconds_79, .int 0, .long 0, .ref m_row_80, .int 0, .ref m_groupSize_81, .ref m_place_82, .ref m_stood_83, .ref m_history_84, .ref m_groupHistory_85, .int 0, .int 0, .int 0, .int 0, .ref m_didRide_86, .ref m_toldRow_87, .ref m_passedBy_88, .ref m_total_89, .ref m_points_90, .ref m_used_91]))]) [0, 52, 53, 54, 55, 56] rfl
      have hD := hD.sub (ws' := [(q_1, .inr (9, [.ref x_riders_2, .ref x_road_7, .ref x_tape_11, .ref x_book_13, .ref x_reader_19, .ref x_latest_20, .ref x_log_35, .ref x_trial_38, .ref x_stages_53, .int 0, .int 0, .int 0])), (x_stages_53, .inr (7, [.int 0, .int 20, .ref x_sg_totals_54, .ref x_sg_points_55, .ref x_sg_out_56])), (x_sg_totals_54, .inl (cI, 20, .inl (fun _ => 0))), (x_sg_points_55, .inl (cI, 20, .inl (fun _ => 0))), (x_sg_out_56, .inl (cZ, 20, .inl (fun _ => 0))), (q_57, .inr (10, [.int 0, .int 1, .int 0, .int (-1), .int 0, .int 0, .int 0, .int 20, .ref m_teamOf_58, .ref m_steady_59, .ref m_full_60, .ref m_climb_61, .ref m_rises_62, .ref m_winds_63, .ref m_primeAt_64, .ref m_tape_65, .int 0, .int 0, .int 0, .ref m_clauses_66, .ref m_letter_67, .ref m_sign_68, .ref m_bar_69, .ref m_pace_70, .ref m_rides_71, .ref m_isOut_72, .ref m_metre_73, .ref m_charge_74, .ref m_held_75, .ref m_seconds_76, .ref m_heldOften_77, .ref m_work_78, .ref m_primeSeconds_79, .int 0, .long 0, .ref m_row_80, .int 0, .ref m_groupSize_81, .ref m_place_82, .ref m_stood_83, .ref m_history_84, .ref m_groupHistory_85, .int 0, .int 0, .int 0, .int 0, .ref m_didRide_86, .ref m_toldRow_87, .ref m_passedBy_88, .ref m_total_89, .ref m_points_90, .ref m_used_91]))]) [0, 52, 53, 54, 55, 56] (by decide) rfl
      refine lv_aload_n hx hb dL_law_661 rfl (lv_at hl 2 rfl) ?_
      refine lv_aload_n hx hb dL_law_662 rfl (lv_at hl 3 rfl) ?_
      refine lv_iload_n hx hb dL_law_663 rfl (lv_at hl 0 rfl) ?_
      refine lv_iconst (v := 1) hx hb dL_law_664 (by decide) ?_
      refine lv_iadd hx hb dL_law_665 ?_
      refine lv_topi (fun v_329 ev_329 => ?_)
      obtain rfl : v_329 = 1 := ev_329.trans (by decide)
      refine va_sld hx hb hX hbl hbA hS (zz_in (a := (1:Int)) (by decide) (by omega) (by omega)) dL_law_666 ?_
      have hPc := hP.sub (ws' := [(q_1, .inr (9, [.ref x_riders_2, .ref x_road_7, .ref x_tape_11, .ref x_book_13, .ref x_reader_19, .ref x_latest_20, .ref x_log_35, .ref x_trial_38, .ref x_stages_53, .int 0, .int 0, .int 0])), (x_stages_53, .inr (7, [.int 0, .int 20, .ref x_sg_totals_54, .ref x_sg_points_55, .ref x_sg_out_56])), (x_sg_totals_54, .inl (cI, 20, .inl (fun _ => 0))), (x_sg_points_55, .inl (cI, 20, .inl (fun _ => 0))), (x_sg_out_56, .inl (cZ, 20, .inl (fun _ => 0)))]) [0, 1, 2, 3, 4] rfl
      have hDc := hD.sub (ws' := [(q_1, .inr (9, [.ref x_riders_2, .ref x_road_7, .ref x_tape_11, .ref x_book_13, .ref x_reader_19, .ref x_latest_20, .ref x_log_35, .ref x_trial_38, .ref x_stages_53, .int 0, .int 0, .int 0])), (x_stages_53, .inr (7, [.int 0, .int 20, .ref x_sg_totals_54, .ref x_sg_points_55, .ref x_sg_out_56])), (x_sg_totals_54, .inl (cI, 20, .inl (fun _ => 0))), (x_sg_points_55, .inl (cI, 20, .inl (fun _ => 0))), (x_sg_out_56, .inl (cZ, 20, .inl (fun _ => 0)))]) [0, 1, 2, 3, 4] (by decide) rfl
      have hFc := va_free (wc := [(q_1, .inr (9, [.ref x_riders_2, .ref x_road_7, .ref x_tape_11, .ref x_book_13, .ref x_reader_19, .ref x_latest_20, .ref x_log_35, .ref x_trial_38, .ref x_stages_53, .int 0, .int 0, .int 0])), (x_stages_53, .inr (7, [.int 0, .int 20, .ref x_sg_totals_54, .ref x_sg_points_55, .ref x_sg_out_56])), (x_sg_totals_54, .inl (cI, 20, .inl (fun _ => 0))), (x_sg_points_55, .inl (cI, 20, .inl (fun _ => 0))), (x_sg_out_56, .inl (cZ, 20, .inl (fun _ => 0)))]) hD hS hA [0, 1, 2, 3, 4] rfl
      refine va_calli (va_runV (As := [.int (xs (Int32.toNatClampNeg 1))]) (rest := []) ⟨hx, hb, hml, hown, hts⟩ (c_X9_limit l dC dI cI cZ (H).size q_1 x_riders_2 x_road_7 x_tape_11 x_book_13 x_reader_19 x_latest_20 x_log_35 x_trial_38 x_stages_53 x_sg_totals_54 x_sg_points_55 x_sg_out_56 (xs (Int32.toNatClampNeg 1)) ((xs (Int32.toNatClampNeg 1)).toInt) rfl) ⟨callB_of 1 hts (zz_goodL zw_664) rfl rfl rfl hw2 hw113 (by decide +kernel) ⟨Nat.le_of_ble_eq_true rfl, Nat.le_of_ble_eq_true rfl⟩, hw114, hw115⟩ ⟨fun a U g mk q => by obtain ⟨q0, q1, qP, qK, qD⟩ := q; exact ⟨q0, q1, qP, va_K.moved (u := U) (U := U.calling g mk a) (Vm.Alike.refl U.vm) qK, qD⟩, va_recv hK hPc (ci := 9) (q0 := 0) rfl rfl, fun U hU hW => ⟨rfl, by rw [hU], by rw [hU]; exact hPc, va_K.moved hW.alike hK, hDc.weaken (fun _ _ _ _ => trivial)⟩⟩ rfl rfl hl.1 rfl (lv_room (Nat.le_of_ble_eq_true rfl)) dL_law_667 ⟨Nat.le_of_ble_eq_true rfl, Nat.le_of_ble_eq_true rfl⟩) hS (fun q _ h => hFc q h) hFc (fun r_330 u t H1 locs ht hvm hpost hB hz1 hk1 hS => ?_)
      subst hpost
      obtain ⟨hf_331, hP1, hK1, hD1⟩ := hB
      rw [ht] at hP1
      obtain ⟨hP, hD⟩ := va_join (wr := [(q_57, .inr (10, [.int 0, .int 1, .int 0, .int (-1), .int 0, .int 0, .int 0, .int 20, .ref m_teamOf_58, .ref m_steady_59, .ref m_full_60, .ref m_climb_61, .ref m_rises_62, .ref m_winds_63, .ref m_primeAt_64, .ref m_tape_65, .int 0, .int 0, .int 0, .ref m_clauses_66, .ref m_letter_67, .ref m_sign_68, .ref m_bar_69, .ref m_pace_70, .ref m_rides_71, .ref m_isOut_72, .ref m_metre_73, .ref m_charge_74, .ref m_held_75, .ref m_seconds_76, .ref m_heldOften_77, .ref m_work_78, .ref m_primeSeconds_79, .int 0, .long 0, .ref m_row_80, .int 0, .ref m_groupSize_81, .ref m_place_82, .ref m_stood_83, .ref m_history_84, .ref m_groupHistory_85, .int 0, .int 0, .int 0, .int 0, .ref m_didRide_86, .ref m_toldRow_87, .ref m_passedBy_88, .ref m_total_89, .ref m_points_90, .ref m_used_91]))]) (w1 := []) hP hD [0, 1, 2, 3, 4] [5] rfl rfl (by decide) (by decide) hk1 hFc hP1 hD1
      generalize H1 = H at hP hS ⊢
      have hP : va_P (dC, dI) vwCl [(q_57, .inr (10, [.int 0, .int 1, .int 0, .int (-1), .int 0, .int 0, .int 0, .int 20, .ref m_teamOf_58, .ref m_steady_59, .ref m_full_60, .ref m_climb_61, .ref m_rises_62, .ref m_winds_63, .ref m_primeAt_64, .ref m_tape_65, .int 0, .int 0, .int 0, .ref m_clauses_66, .ref m_letter_67, .ref m_sign_68, .ref m_bar_69, .ref m_pace_70, .ref m_rides_71, .ref m_isOut_72, .ref m_metre_73, .ref m_charge_74, .ref m_held_75, .ref m_seconds_76, .ref m_heldOften_77, .ref m_work_78, .ref m_primeSeconds_79, .int 0, .long 0, .ref m_row_80, .int 0, .ref m_groupSize_81, .ref m_place_82, .ref m_stood_83, .ref m_history_84, .ref m_groupHistory_85, .int 0, .int 0, .int 0, .int 0, .ref m_didRide_86, .ref m_toldRow_87, .ref m_passedBy_88, .ref m_total_89, .ref m_points_90, .ref m_used_91]))] H := hP
      have hD : va_D (fun q : Nat => s.heap.size ≤ q) [(q_57, .inr (10, [.int 0, .int 1, .int 0, .int (-1), .int 0, .int 0, .int 0, .int 20, .ref m_teamOf_58, .ref m_steady_59, .ref m_full_60, .ref m_climb_61, .ref m_rises_62, .ref m_winds_63, .ref m_primeAt_64, .ref m_tape_65, .int 0, .int 0, .int 0, .ref m_clauses_66, .ref m_letter_67, .ref m_sign_68, .ref m_bar_69, .ref m_pace_70, .ref m_rides_71, .ref m_isOut_72, .ref m_metre_73, .ref m_charge_74, .ref m_held_75, .ref m_seconds_76, .ref m_heldOften_77, .ref m_work_78, .ref m_primeSeconds_79, .int 0, .long 0, .ref m_row_80, .int 0, .ref m_groupSize_81, .ref m_place_82, .ref m_stood_83, .ref m_history_84, .ref m_groupHistory_85, .int 0, .int 0, .int 0, .int 0, .ref m_didRide_86, .ref m_toldRow_87, .ref m_passedBy_88, .ref m_total_89, .ref m_points_90, .ref m_used_91]))] := hD
      have hf_331 : (r_330 = 1 ∧ (1 ≤ ((xs (Int32.toNatClampNeg 1)).toInt) ∧ ((xs (Int32.toNatClampNeg 1)).toInt) ≤ 100)) ∨ (r_330 = 0 ∧ ¬ (1 ≤ ((xs (Int32.toNatClampNeg 1)).toInt) ∧ ((xs (Int32.toNatClampNeg 1)).toInt) ≤ 100)) := hf_331
      rcases hf_331 with ⟨rfl, hf_331⟩ | ⟨rfl, hf_331⟩
      ·
        refine lv_aload_n hx hb dL_law_670 rfl (lv_at hl 1 rfl) ?_
        refine lv_aload_n hx hb dL_law_671 rfl (lv_at hl 3 rfl) ?_
        refine lv_iload_n hx hb dL_law_672 rfl (lv_at hl 0 rfl) ?_
        refine lv_iconst (v := 1) hx hb dL_law_673 (by decide) ?_
        refine lv_iadd hx hb dL_law_674 ?_
        refine lv_topi (fun v_332 ev_332 => ?_)
        obtain rfl : v_332 = 1 := ev_332.trans (by decide)
        refine va_sld hx hb hX hbl hbA hS (zz_in (a := (1:Int)) (by decide) (by omega) (by omega)) dL_law_675 ?_
        have hPc := hP.sub (ws' := [(q_57, .inr (10, [.int 0, .int 1, .int 0, .int (-1), .int 0, .int 0, .int 0, .int 20, .ref m_teamOf_58, .ref m_steady_59, .ref m_full_60, .ref m_climb_61, .ref m_rises_62, .ref m_winds_63, .ref m_primeAt_64, .ref m_tape_65, .int 0, .int 0, .int 0, .ref m_clauses_66, .ref m_letter_67, .ref m_sign_68, .ref m_bar_69, .ref m_pace_70, .ref m_rides_71, .ref m_isOut_72, .ref m_metre_73, .ref m_charge_74, .ref m_held_75, .ref m_seconds_76, .ref m_heldOften_77, .ref m_work_78, .ref m_primeSeconds_79, .int 0, .long 0, .ref m_row_80, .int 0, .ref m_groupSize_81, .ref m_place_82, .ref m_stood_83, .ref m_history_84, .ref m_groupHistory_85, .int 0, .int 0, .int 0, .int 0, .ref m_didRide_86, .ref m_toldRow_87, .ref m_passedBy_88, .ref m_total_89, .ref m_points_90, .ref m_used_91]))]) [0] rfl
        have hDc := hD.sub (ws' := [(q_57, .inr (10, [.int 0, .int 1, .int 0, .int (-1), .int 0, .int 0, .int 0, .int 20, .ref m_teamOf_58, .ref m_steady_59, .ref m_full_60, .ref m_climb_61, .ref m_rises_62, .ref m_winds_63, .ref m_primeAt_64, .ref m_tape_65, .int 0, .int 0, .int 0, .ref m_clauses_66, .ref m_letter_67, .ref m_sign_68, .ref m_bar_69, .ref m_pace_70, .ref m_rides_71, .ref m_isOut_72, .ref m_metre_73, .ref m_charge_74, .ref m_held_75, .ref m_seconds_76, .ref m_heldOften_77, .ref m_work_78, .ref m_primeSeconds_79, .int 0, .long 0, .ref m_row_80, .int 0, .ref m_groupSize_81, .ref m_place_82, .ref m_stood_83, .ref m_history_84, .ref m_groupHistory_85, .int 0, .int 0, .int 0, .int 0, .ref m_didRide_86, .ref m_toldRow_87, .ref m_passedBy_88, .ref m_total_89, .ref m_points_90, .ref m_used_91]))]) [0] (by decide) rfl
        have hFc := va_free (wc := [(q_57, .inr (10, [.int 0, .int 1, .int 0, .int (-1), .int 0, .int 0, .int 0, .int 20, .ref m_teamOf_58, .ref m_steady_59, .ref m_full_60, .ref m_climb_61, .ref m_rises_62, .ref m_winds_63, .ref m_primeAt_64, .ref m_tape_65, .int 0, .int 0, .int 0, .ref m_clauses_66, .ref m_letter_67, .ref m_sign_68, .ref m_bar_69, .ref m_pace_70, .ref m_rides_71, .ref m_isOut_72, .ref m_metre_73, .ref m_charge_74, .ref m_held_75, .ref m_seconds_76, .ref m_heldOften_77, .ref m_work_78, .ref m_primeSeconds_79, .int 0, .long 0, .ref m_row_80, .int 0, .ref m_groupSize_81, .ref m_place_82, .ref m_stood_83, .ref m_history_84, .ref m_groupHistory_85, .int 0, .int 0, .int 0, .int 0, .ref m_didRide_86, .ref m_toldRow_87, .ref m_passedBy_88, .ref m_total_89, .ref m_points_90, .ref m_used_91]))]) hD hS hA [0] rfl
        refine va_calli (va_runV (As := [.int (xs (Int32.toNatClampNeg 1))]) (rest := [.int 1]) ⟨hx, hb, hml, hown, hts⟩ (c_X10_limit l dC dI cI cZ (H).size q_57 m_teamOf_58 m_steady_59 m_full_60 m_climb_61 m_rises_62 m_winds_63 m_primeAt_64 m_tape_65 m_clauses_66 m_letter_67 m_sign_68 m_bar_69 m_pace_70 m_rides_71 m_isOut_72 m_metre_73 m_charge_74 m_held_75 m_seconds_76 m_heldOften_77 m_work_78 m_primeSeconds_79 m_row_80 m_groupSize_81 m_place_82 m_stood_83 m_history_84 m_groupHistory_85 m_didRide_86 m_toldRow_87 m_passedBy_88 m_total_89 m_points_90 m_used_91 (xs (Int32.toNatClampNeg 1)) ((xs (Int32.toNatClampNeg 1)).toInt) rfl) ⟨callB_of 1 hts (zz_goodL zw_1056) rfl rfl rfl hw7 hw116 (by decide +kernel) ⟨Nat.le_of_ble_eq_true rfl, Nat.le_of_ble_eq_true rfl⟩, hw117, hw118⟩ ⟨fun a U g mk q => by obtain ⟨q0, q1, qP, qK, qD⟩ := q; exact ⟨q0, q1, qP, va_K.moved (u := U) (U := U.calling g mk a) (Vm.Alike.refl U.vm) qK, qD⟩, va_recv hK hPc (ci := 10) (q0 := 0) rfl rfl, fun U hU hW => ⟨rfl, by rw [hU], by rw [hU]; exact hPc, va_K.moved hW.alike hK, hDc.weaken (fun _ _ _ _ => trivial)⟩⟩ rfl rfl hl.1 rfl (lv_room (Nat.le_of_ble_eq_true rfl)) dL_law_676 ⟨Nat.le_of_ble_eq_true rfl, Nat.le_of_ble_eq_true rfl⟩) hS (fun q _ h => hFc q h) hFc (fun r_333 u t H1 locs ht hvm hpost hB hz1 hk1 hS => ?_)
        subst hpost
        obtain ⟨hf_334, hP1, hK1, hD1⟩ := hB
        rw [ht] at hP1
        obtain ⟨hP, hD⟩ := va_join (wr := []) (w1 := []) hP hD [0] [] rfl rfl (by decide) (by decide) hk1 hFc hP1 hD1
        generalize H1 = H at hP hS ⊢
        have hP : va_P (dC, dI) vwCl [] H := hP
        have hD : va_D (fun q : Nat => s.heap.size ≤ q) [] := hD
        have hf_334 : (r_333 = 1 ∧ (1 ≤ ((xs (Int32.toNatClampNeg 1)).toInt) ∧ ((xs (Int32.toNatClampNeg 1)).toInt) ≤ 100)) ∨ (r_333 = 0 ∧ ¬ (1 ≤ ((xs (Int32.toNatClampNeg 1)).toInt) ∧ ((xs (Int32.toNatClampNeg 1)).toInt) ≤ 100)) := hf_334
        rcases hf_334 with ⟨rfl, hf_334⟩ | ⟨rfl, hf_334⟩
        ·
          refine lv_icmp_eq (tgt := 931) hx hb dL_law_679 (by decide) (fun c_335 => ?_) (fun c_335 => ?_)
          ·
            refine lv_iinc (v := 7) (lv' := [(3, .int 7), (2, .ref q_57), (1, .ref q_1), (0, .ref b)]) hx hb dL_law_931 hl (k := 0) rfl (by decide) (by decide) rfl (fun ls hl => ?_)
            refine lv_goto (tgt := 18) hx hb dL_law_934 (by decide) ?_
            refine lv_iload_n hx hb dL_law_18 rfl (lv_at hl 0 rfl) ?_
            refine lv_aload_n hx hb dL_law_19 rfl (lv_at hl 3 rfl) ?_
            refine va_slen hx hb hX hbl hbA hS dL_law_20 ?_
            refine lv_bipush (v := 7) hx hb dL_law_21 (by decide) ?_
            refine lv_isub hx hb dL_law_23 ?_
            refine lv_topi (fun v_336 ev_336 => ?_)
            have hv_336 : v_336.toInt = ((L : Int) - (7:Int)) := by rw [ev_336]; exact zz_subI (nI_toInt (by omega)) (by decide) (by omega) (by omega)
            refine lv_icmp_gt (tgt := 937) hx hb dL_law_24 (by decide) (fun c_337 => ?_) (fun c_337 => ?_)
            ·
              have c_337 : ((L : Int) - (7:Int)) < (7:Int) := zz_lt hv_336 (by decide) c_337
              refine lv_iconst (v := 1) hx hb dL_law_937 (by decide) ?_
              refine va_forget (fun q hq => hS.2.2 q hq) ?_
              refine W.widen (k := 91) (n := 20364) (Nat.le_of_ble_eq_true rfl) (Nat.le_of_ble_eq_true rfl) ?_
              exact lw_ret hx hb hr hlocks dL_law_938
            ·
              have c_337 : ¬ (((L : Int) - (7:Int)) < (7:Int)) := zz_ltn hv_336 (by decide) c_337
              exact absurd c_337 (by omega)
          ·
            exact absurd c_335 (by decide)
        ·
          exfalso
          omega
      ·
        refine lv_aload_n hx hb dL_law_670 rfl (lv_at hl 1 rfl) ?_
        refine lv_aload_n hx hb dL_law_671 rfl (lv_at hl 3 rfl) ?_
        refine lv_iload_n hx hb dL_law_672 rfl (lv_at hl 0 rfl) ?_
        refine lv_iconst (v := 1) hx hb dL_law_673 (by decide) ?_
        refine lv_iadd hx hb dL_law_674 ?_
        refine lv_topi (fun v_339 ev_339 => ?_)
        obtain rfl : v_339 = 1 := ev_339.trans (by decide)
        refine va_sld hx hb hX hbl hbA hS (zz_in (a := (1:Int)) (by decide) (by omega) (by omega)) dL_law_675 ?_
        have hPc := hP.sub (ws' := [(q_57, .inr (10, [.int 0, .int 1, .int 0, .int (-1), .int 0, .int 0, .int 0, .int 20, .ref m_teamOf_58, .ref m_steady_59, .ref m_full_60, .ref m_climb_61, .ref m_rises_62, .ref m_winds_63, .ref m_primeAt_64, .ref m_tape_65, .int 0, .int 0, .int 0, .ref m_clauses_66, .ref m_letter_67, .ref m_sign_68, .ref m_bar_69, .ref m_pace_70, .ref m_rides_71, .ref m_isOut_72, .ref m_metre_73, .ref m_charge_74, .ref m_held_75, .ref m_seconds_76, .ref m_heldOften_77, .ref m_work_78, .ref m_primeSeconds_79, .int 0, .long 0, .ref m_row_80, .int 0, .ref m_groupSize_81, .ref m_place_82, .ref m_stood_83, .ref m_history_84, .ref m_groupHistory_85, .int 0, .int 0, .int 0, .int 0, .ref m_didRide_86, .ref m_toldRow_87, .ref m_passedBy_88, .ref m_total_89, .ref m_points_90, .ref m_used_91]))]) [0] rfl
        have hDc := hD.sub (ws' := [(q_57, .inr (10, [.int 0, .int 1, .int 0, .int (-1), .int 0, .int 0, .int 0, .int 20, .ref m_teamOf_58, .ref m_steady_59, .ref m_full_60, .ref m_climb_61, .ref m_rises_62, .ref m_winds_63, .ref m_primeAt_64, .ref m_tape_65, .int 0, .int 0, .int 0, .ref m_clauses_66, .ref m_letter_67, .ref m_sign_68, .ref m_bar_69, .ref m_pace_70, .ref m_rides_71, .ref m_isOut_72, .ref m_metre_73, .ref m_charge_74, .ref m_held_75, .ref m_seconds_76, .ref m_heldOften_77, .ref m_work_78, .ref m_primeSeconds_79, .int 0, .long 0, .ref m_row_80, .int 0, .ref m_groupSize_81, .ref m_place_82, .ref m_stood_83, .ref m_history_84, .ref m_groupHistory_85, .int 0, .int 0, .int 0, .int 0, .ref m_didRide_86, .ref m_toldRow_87, .ref m_passedBy_88, .ref m_total_89, .ref m_points_90, .ref m_used_91]))]) [0] (by decide) rfl
        have hFc := va_free (wc := [(q_57, .inr (10, [.int 0, .int 1, .int 0, .int (-1), .int 0, .int 0, .int 0, .int 20, .ref m_teamOf_58, .ref m_steady_59, .ref m_full_60, .ref m_climb_61, .ref m_rises_62, .ref m_winds_63, .ref m_primeAt_64, .ref m_tape_65, .int 0, .int 0, .int 0, .ref m_clauses_66, .ref m_letter_67, .ref m_sign_68, .ref m_bar_69, .ref m_pace_70, .ref m_rides_71, .ref m_isOut_72, .ref m_metre_73, .ref m_charge_74, .ref m_held_75, .ref m_seconds_76, .ref m_heldOften_77, .ref m_work_78, .ref m_primeSeconds_79, .int 0, .long 0, .ref m_row_80, .int 0, .ref m_groupSize_81, .ref m_place_82, .ref m_stood_83, .ref m_history_84, .ref m_groupHistory_85, .int 0, .int 0, .int 0, .int 0, .ref m_didRide_86, .ref m_toldRow_87, .ref m_passedBy_88, .ref m_total_89, .ref m_points_90, .ref m_used_91]))]) hD hS hA [0] rfl
        refine va_calli (va_runV (As := [.int (xs (Int32.toNatClampNeg 1))]) (rest := [.int 0]) ⟨hx, hb, hml, hown, hts⟩ (c_X10_limit l dC dI cI cZ (H).size q_57 m_teamOf_58 m_steady_59 m_full_60 m_climb_61 m_rises_62 m_winds_63 m_primeAt_64 m_tape_65 m_clauses_66 m_letter_67 m_sign_68 m_bar_69 m_pace_70 m_rides_71 m_isOut_72 m_metre_73 m_charge_74 m_held_75 m_seconds_76 m_heldOften_77 m_work_78 m_primeSeconds_79 m_row_80 m_groupSize_81 m_place_82 m_stood_83 m_history_84 m_groupHistory_85 m_didRide_86 m_toldRow_87 m_passedBy_88 m_total_89 m_points_90 m_used_91 (xs (Int32.toNatClampNeg 1)) ((xs (Int32.toNatClampNeg 1)).toInt) rfl) ⟨callB_of 1 hts (zz_goodL zw_1056) rfl rfl rfl hw7 hw116 (by decide +kernel) ⟨Nat.le_of_ble_eq_true rfl, Nat.le_of_ble_eq_true rfl⟩, hw117, hw118⟩ ⟨fun a U g mk q => by obtain ⟨q0, q1, qP, qK, qD⟩ := q; exact ⟨q0, q1, qP, va_K.moved (u := U) (U := U.calling g mk a) (Vm.Alike.refl U.vm) qK, qD⟩, va_recv hK hPc (ci := 10) (q0 := 0) rfl rfl, fun U hU hW => ⟨rfl, by rw [hU], by rw [hU]; exact hPc, va_K.moved hW.alike hK, hDc.weaken (fun _ _ _ _ => trivial)⟩⟩ rfl rfl hl.1 rfl (lv_room (Nat.le_of_ble_eq_true rfl)) dL_law_676 ⟨Nat.le_of_ble_eq_true rfl, Nat.le_of_ble_eq_true rfl⟩) hS (fun q _ h => hFc q h) hFc (fun r_340 u t H1 locs ht hvm hpost hB hz1 hk1 hS => ?_)
        subst hpost
        obtain ⟨hf_341, hP1, hK1, hD1⟩ := hB
        rw [ht] at hP1
        obtain ⟨hP, hD⟩ := va_join (wr := []) (w1 := []) hP hD [0] [] rfl rfl (by decide) (by decide) hk1 hFc hP1 hD1
        generalize H1 = H at hP hS ⊢
        have hP : va_P (dC, dI) vwCl [] H := hP
        have hD : va_D (fun q : Nat => s.heap.size ≤ q) [] := hD
        have hf_341 : (r_340 = 1 ∧ (1 ≤ ((xs (Int32.toNatClampNeg 1)).toInt) ∧ ((xs (Int32.toNatClampNeg 1)).toInt) ≤ 100)) ∨ (r_340 = 0 ∧ ¬ (1 ≤ ((xs (Int32.toNatClampNeg 1)).toInt) ∧ ((xs (Int32.toNatClampNeg 1)).toInt) ≤ 100)) := hf_341
        rcases hf_341 with ⟨rfl, hf_341⟩ | ⟨rfl, hf_341⟩
        ·
          exfalso
          omega
        ·
          refine lv_icmp_eq (tgt := 931) hx hb dL_law_679 (by decide) (fun c_343 => ?_) (fun c_343 => ?_)
          ·
            refine lv_iinc (v := 7) (lv' := [(3, .int 7), (2, .ref q_57), (1, .ref q_1), (0, .ref b)]) hx hb dL_law_931 hl (k := 0) rfl (by decide) (by decide) rfl (fun ls hl => ?_)
            refine lv_goto (tgt := 18) hx hb dL_law_934 (by decide) ?_
            refine lv_iload_n hx hb dL_law_18 rfl (lv_at hl 0 rfl) ?_
            refine lv_aload_n hx hb dL_law_19 rfl (lv_at hl 3 rfl) ?_
            refine va_slen hx hb hX hbl hbA hS dL_law_20 ?_
            refine lv_bipush (v := 7) hx hb dL_law_21 (by decide) ?_
            refine lv_isub hx hb dL_law_23 ?_
            refine lv_topi (fun v_344 ev_344 => ?_)
            have hv_344 : v_344.toInt = ((L : Int) - (7:Int)) := by rw [ev_344]; exact zz_subI (nI_toInt (by omega)) (by decide) (by omega) (by omega)
            refine lv_icmp_gt (tgt := 937) hx hb dL_law_24 (by decide) (fun c_345 => ?_) (fun c_345 => ?_)
            ·
              have c_345 : ((L : Int) - (7:Int)) < (7:Int) := zz_lt hv_344 (by decide) c_345
              refine lv_iconst (v := 1) hx hb dL_law_937 (by decide) ?_
              refine va_forget (fun q hq => hS.2.2 q hq) ?_
              refine W.widen (k := 91) (n := 20364) (Nat.le_of_ble_eq_true rfl) (Nat.le_of_ble_eq_true rfl) ?_
              exact lw_ret hx hb hr hlocks dL_law_938
            ·
              have c_345 : ¬ (((L : Int) - (7:Int)) < (7:Int)) := zz_ltn hv_344 (by decide) c_345
              exact absurd c_345 (by omega)
          ·
            exact absurd c_343 (by decide)
    ·
      refine lv_tableIn (tgt := 684) (off := 651) hx hb dL_law_33 (by rw [hs_95]; omega) (by rw [hs_95]; omega) (by rw [hs_95, q_96]; rfl) (by decide) ?_
      have hP := hP.sub (ws' := [(q_1, .inr (9, [.ref x_riders_2, .ref x_road_7, .ref x_tape_11, .ref x_book_13, .ref x_reader_19, .ref x_latest_20, .ref x_log_35, .ref x_trial_38, .ref x_stages_53, .int 0, .int 0, .int 0])), (x_riders_2, .inr (5, [.int 0, .ref x_ri_teams_3, .ref x_ri_steady_4, .ref x_ri_full_5, .ref x_ri_climb_6])), (q_57, .inr (10, [.int 0, .int 1, .int 0, .int (-1), .int 0, .int 0, .int 0, .int 20, .ref m_teamOf_58, .ref m_steady_59, .ref m_full_60, .ref m_climb_61, .ref m_rises_62, .ref m_winds_63, .ref m_primeAt_64, .ref m_tape_65, .int 0, .int 0, .int 0, .ref m_clauses_66, .ref m_letter_67, .ref m_sign_68, .ref m_bar_69, .ref m_pace_70, .ref m_rides_71, .ref m_isOut_72, .ref m_metre_73, .ref m_charge_74, .ref m_held_75, .ref m_seconds_76, .ref m_heldOften_77, .ref m_work_78, .ref m_primeSeconds_79, .int 0, .long 0, .ref m_row_80, .int 0, .ref m_groupSize_81, .ref m_place_82, .ref m_stood_83, .ref m_history_84, .ref m_groupHistory_85, .int 0, .int 0, .int 0, .int 0, .ref m_didRide_86, .ref m_toldRow_87, .ref m_passedBy_88, .ref m_total_89, .ref m_points_90, .ref m_used_91]))]) [0, 1, 56] rfl
      have hD := hD.sub (ws' := [(q_1, .inr (9, [.ref x_riders_2, .ref x_road_7, .ref x_tape_11, .ref x_book_13, .ref x_reader_19, .ref x_latest_20, .ref x_log_35, .ref x_trial_38, .ref x_stages_53, .int 0, .int 0, .int 0])), (x_riders_2, .inr (5, [.int 0, .ref x_ri_teams_3, .ref x_ri_steady_4, .ref x_ri_full_5, .ref x_ri_climb_6])), (q_57, .inr (10, [.int 0, .int 1, .int 0, .int (-1), .int 0, .int 0, .int 0, .int 20, .ref m_teamOf_58, .ref m_steady_59, .ref m_full_60, .ref m_climb_61, .ref m_rises_62, .ref m_winds_63, .ref m_primeAt_64, .ref m_tape_65, .int 0, .int 0, .int 0, .ref m_clauses_66, .ref m_letter_67, .ref m_sign_68, .ref m_bar_69, .ref m_pace_70, .ref m_rides_71, .ref m_isOut_72, .ref m_metre_73, .ref m_charge_74, .ref m_held_75, .ref m_seconds_76, .ref m_heldOften_77, .ref m_work_78, .ref m_primeSeconds_79, .int 0, .long 0, .ref m_row_80, .int 0, .ref m_groupSize_81, .ref m_place_82, .ref m_stood_83, .ref m_history_84, .ref m_groupHistory_85, .int 0, .int 0, .int 0, .int 0, .ref m_didRide_86, .ref m_toldRow_87, .ref m_passedBy_88, .ref m_total_89, .ref m_points_90, .ref m_used_91]))]) [0, 1, 56] (by decide) rfl
      refine lv_aload_n hx hb dL_law_684 rfl (lv_at hl 2 rfl) ?_
      refine lv_aload_n hx hb dL_law_685 rfl (lv_at hl 3 rfl) ?_
      refine lv_iload_n hx hb dL_law_686 rfl (lv_at hl 0 rfl) ?_
      refine lv_iconst (v := 1) hx hb dL_law_687 (by decide) ?_
      refine lv_iadd hx hb dL_law_688 ?_
      refine lv_topi (fun v_346 ev_346 => ?_)
      obtain rfl : v_346 = 1 := ev_346.trans (by decide)
      refine va_sld hx hb hX hbl hbA hS (zz_in (a := (1:Int)) (by decide) (by omega) (by omega)) dL_law_689 ?_
      refine lv_aload_n hx hb dL_law_690 rfl (lv_at hl 3 rfl) ?_
      refine lv_iload_n hx hb dL_law_691 rfl (lv_at hl 0 rfl) ?_
      refine lv_iconst (v := 2) hx hb dL_law_692 (by decide) ?_
      refine lv_iadd hx hb dL_law_693 ?_
      refine lv_topi (fun v_347 ev_347 => ?_)
      obtain rfl : v_347 = 2 := ev_347.trans (by decide)
      refine va_sld hx hb hX hbl hbA hS (zz_in (a := (2:Int)) (by decide) (by omega) (by omega)) dL_law_694 ?_
      have hPc := hP.sub (ws' := [(q_1, .inr (9, [.ref x_riders_2, .ref x_road_7, .ref x_tape_11, .ref x_book_13, .ref x_reader_19, .ref x_latest_20, .ref x_log_35, .ref x_trial_38, .ref x_stages_53, .int 0, .int 0, .int 0])), (x_riders_2, .inr (5, [.int 0, .ref x_ri_teams_3, .ref x_ri_steady_4, .ref x_ri_full_5, .ref x_ri_climb_6]))]) [0, 1] rfl
      have hDc := hD.sub (ws' := [(q_1, .inr (9, [.ref x_riders_2, .ref x_road_7, .ref x_tape_11, .ref x_book_13, .ref x_reader_19, .ref x_latest_20, .ref x_log_35, .ref x_trial_38, .ref x_stages_53, .int 0, .int 0, .int 0])), (x_riders_2, .inr (5, [.int 0, .ref x_ri_teams_3, .ref x_ri_steady_4, .ref x_ri_full_5, .ref x_ri_climb_6]))]) [0, 1] (by decide) rfl
      have hFc := va_free (wc := [(q_1, .inr (9, [.ref x_riders_2, .ref x_road_7, .ref x_tape_11, .ref x_book_13, .ref x_reader_19, .ref x_latest_20, .ref x_log_35, .ref x_trial_38, .ref x_stages_53, .int 0, .int 0, .int 0])), (x_riders_2, .inr (5, [.int 0, .ref x_ri_teams_3, .ref x_ri_steady_4, .ref x_ri_full_5, .ref x_ri_climb_6]))]) hD hS hA [0, 1] rfl
      refine va_calli (va_runV (As := [.int (xs (Int32.toNatClampNeg 1)), .int (xs (Int32.toNatClampNeg 2))]) (rest := []) ⟨hx, hb, hml, hown, hts⟩ (c_X9_sum l dC dI cI cZ (H).size q_1 x_riders_2 x_road_7 x_tape_11 x_book_13 x_reader_19 x_latest_20 x_log_35 x_trial_38 x_stages_53 x_ri_teams_3 x_ri_steady_4 x_ri_full_5 x_ri_climb_6 (xs (Int32.toNatClampNeg 1)) ((xs (Int32.toNatClampNeg 1)).toInt) rfl (xs (Int32.toNatClampNeg 2)) ((xs (Int32.toNatClampNeg 2)).toInt) rfl) ⟨callB_of 2 hts (zz_goodL zw_668) rfl rfl rfl hw2 hw119 (by decide +kernel) ⟨Nat.le_of_ble_eq_true rfl, Nat.le_of_ble_eq_true rfl⟩, hw120, hw121⟩ ⟨fun a U g mk q => by obtain ⟨q0, q1, qP, qK, qD⟩ := q; exact ⟨q0, q1, qP, va_K.moved (u := U) (U := U.calling g mk a) (Vm.Alike.refl U.vm) qK, qD⟩, va_recv hK hPc (ci := 9) (q0 := 0) rfl rfl, fun U hU hW => ⟨rfl, by rw [hU], by rw [hU]; exact hPc, va_K.moved hW.alike hK, hDc.weaken (fun _ _ _ _ => trivial)⟩⟩ rfl rfl hl.1 rfl (lv_room (Nat.le_of_ble_eq_true rfl)) dL_law_695 ⟨Nat.le_of_ble_eq_true rfl, Nat.le_of_ble_eq_true rfl⟩) hS (fun q _ h => hFc q h) hFc (fun r_348 u t H1 locs ht hvm hpost hB hz1 hk1 hS => ?_)
      subst hpost
      obtain ⟨hf_349, hP1, hK1, hD1⟩ := hB
      rw [ht] at hP1
      obtain ⟨hP, hD⟩ := va_join (wr := [(q_57, .inr (10, [.int 0, .int 1, .int 0, .int (-1), .int 0, .int 0, .int 0, .int 20, .ref m_teamOf_58, .ref m_steady_59, .ref m_full_60, .ref m_climb_61, .ref m_rises_62, .ref m_winds_63, .ref m_primeAt_64, .ref m_tape_65, .int 0, .int 0, .int 0, .ref m_clauses_66, .ref m_letter_67, .ref m_sign_68, .ref m_bar_69, .ref m_pace_70, .ref m_rides_71, .ref m_isOut_72, .ref m_metre_73, .ref m_charge_74, .ref m_held_75, .ref m_seconds_76, .ref m_heldOften_77, .ref m_work_78, .ref m_primeSeconds_79, .int 0, .long 0, .ref m_row_80, .int 0, .ref m_groupSize_81, .ref m_place_82, .ref m_stood_83, .ref m_history_84, .ref m_groupHistory_85, .int 0, .int 0, .int 0, .int 0, .ref m_didRide_86, .ref m_toldRow_87, .ref m_passedBy_88, .ref m_total_89, .ref m_points_90, .ref m_used_91]))]) (w1 := []) hP hD [0, 1] [2] rfl rfl (by decide) (by decide) hk1 hFc hP1 hD1
      generalize H1 = H at hP hS ⊢
      have hP : va_P (dC, dI) vwCl [(q_57, .inr (10, [.int 0, .int 1, .int 0, .int (-1), .int 0, .int 0, .int 0, .int 20, .ref m_teamOf_58, .ref m_steady_59, .ref m_full_60, .ref m_climb_61, .ref m_rises_62, .ref m_winds_63, .ref m_primeAt_64, .ref m_tape_65, .int 0, .int 0, .int 0, .ref m_clauses_66, .ref m_letter_67, .ref m_sign_68, .ref m_bar_69, .ref m_pace_70, .ref m_rides_71, .ref m_isOut_72, .ref m_metre_73, .ref m_charge_74, .ref m_held_75, .ref m_seconds_76, .ref m_heldOften_77, .ref m_work_78, .ref m_primeSeconds_79, .int 0, .long 0, .ref m_row_80, .int 0, .ref m_groupSize_81, .ref m_place_82, .ref m_stood_83, .ref m_history_84, .ref m_groupHistory_85, .int 0, .int 0, .int 0, .int 0, .ref m_didRide_86, .ref m_toldRow_87, .ref m_passedBy_88, .ref m_total_89, .ref m_points_90, .ref m_used_91]))] H := hP
      have hD : va_D (fun q : Nat => s.heap.size ≤ q) [(q_57, .inr (10, [.int 0, .int 1, .int 0, .int (-1), .int 0, .int 0, .int 0, .int 20, .ref m_teamOf_58, .ref m_steady_59, .ref m_full_60, .ref m_climb_61, .ref m_rises_62, .ref m_winds_63, .ref m_primeAt_64, .ref m_tape_65, .int 0, .int 0, .int 0, .ref m_clauses_66, .ref m_letter_67, .ref m_sign_68, .ref m_bar_69, .ref m_pace_70, .ref m_rides_71, .ref m_isOut_72, .ref m_metre_73, .ref m_charge_74, .ref m_held_75, .ref m_seconds_76, .ref m_heldOften_77, .ref m_work_78, .ref m_primeSeconds_79, .int 0, .long 0, .ref m_row_80, .int 0, .ref m_groupSize_81, .ref m_place_82, .ref m_stood_83, .ref m_history_84, .ref m_groupHistory_85, .int 0, .int 0, .int 0, .int 0, .ref m_didRide_86, .ref m_toldRow_87, .ref m_passedBy_88, .ref m_total_89, .ref m_points_90, .ref m_used_91]))] := hD
      have hf_349 : r_348.toInt = -1 := hf_349
      obtain rfl : r_348 = (-1) := Int32.toInt_inj.mp (hf_349.trans (by decide))
      refine lv_aload_n hx hb dL_law_698 rfl (lv_at hl 1 rfl) ?_
      refine lv_aload_n hx hb dL_law_699 rfl (lv_at hl 3 rfl) ?_
      refine lv_iload_n hx hb dL_law_700 rfl (lv_at hl 0 rfl) ?_
      refine lv_iconst (v := 1) hx hb dL_law_701 (by decide) ?_
      refine lv_iadd hx hb dL_law_702 ?_
      refine lv_topi (fun v_350 ev_350 => ?_)
      obtain rfl : v_350 = 1 := ev_350.trans (by decide)
      refine va_sld hx hb hX hbl hbA hS (zz_in (a := (1:Int)) (by decide) (by omega) (by omega)) dL_law_703 ?_
      refine lv_aload_n hx hb dL_law_704 rfl (lv_at hl 3 rfl) ?_
      refine lv_iload_n hx hb dL_law_705 rfl (lv_at hl 0 rfl) ?_
      refine lv_iconst (v := 2) hx hb dL_law_706 (by decide) ?_
      refine lv_iadd hx hb dL_law_707 ?_
      refine lv_topi (fun v_351 ev_351 => ?_)
      obtain rfl : v_351 = 2 := ev_351.trans (by decide)
      refine va_sld hx hb hX hbl hbA hS (zz_in (a := (2:Int)) (by decide) (by omega) (by omega)) dL_law_708 ?_
      have hPc := hP.sub (ws' := [(q_57, .inr (10, [.int 0, .int 1, .int 0, .int (-1), .int 0, .int 0, .int 0, .int 20, .ref m_teamOf_58, .ref m_steady_59, .ref m_full_60, .ref m_climb_61, .ref m_rises_62, .ref m_winds_63, .ref m_primeAt_64, .ref m_tape_65, .int 0, .int 0, .int 0, .ref m_clauses_66, .ref m_letter_67, .ref m_sign_68, .ref m_bar_69, .ref m_pace_70, .ref m_rides_71, .ref m_isOut_72, .ref m_metre_73, .ref m_charge_74, .ref m_held_75, .ref m_seconds_76, .ref m_heldOften_77, .ref m_work_78, .ref m_primeSeconds_79, .int 0, .long 0, .ref m_row_80, .int 0, .ref m_groupSize_81, .ref m_place_82, .ref m_stood_83, .ref m_history_84, .ref m_groupHistory_85, .int 0, .int 0, .int 0, .int 0, .ref m_didRide_86, .ref m_toldRow_87, .ref m_passedBy_88, .ref m_total_89, .ref m_points_90, .ref m_used_91]))]) [0] rfl
      have hDc := hD.sub (ws' := [(q_57, .inr (10, [.int 0, .int 1, .int 0, .int (-1), .int 0, .int 0, .int 0, .int 20, .ref m_teamOf_58, .ref m_steady_59, .ref m_full_60, .ref m_climb_61, .ref m_rises_62, .ref m_winds_63, .ref m_primeAt_64, .ref m_tape_65, .int 0, .int 0, .int 0, .ref m_clauses_66, .ref m_letter_67, .ref m_sign_68, .ref m_bar_69, .ref m_pace_70, .ref m_rides_71, .ref m_isOut_72, .ref m_metre_73, .ref m_charge_74, .ref m_held_75, .ref m_seconds_76, .ref m_heldOften_77, .ref m_work_78, .ref m_primeSeconds_79, .int 0, .long 0, .ref m_row_80, .int 0, .ref m_groupSize_81, .ref m_place_82, .ref m_stood_83, .ref m_history_84, .ref m_groupHistory_85, .int 0, .int 0, .int 0, .int 0, .ref m_didRide_86, .ref m_toldRow_87, .ref m_passedBy_88, .ref m_total_89, .ref m_points_90, .ref m_used_91]))]) [0] (by decide) rfl
      have hFc := va_free (wc := [(q_57, .inr (10, [.int 0, .int 1, .int 0, .int (-1), .int 0, .int 0, .int 0, .int 20, .ref m_teamOf_58, .ref m_steady_59, .ref m_full_60, .ref m_climb_61, .ref m_rises_62, .ref m_winds_63, .ref m_primeAt_64, .ref m_tape_65, .int 0, .int 0, .int 0, .ref m_clauses_66, .ref m_letter_67, .ref m_sign_68, .ref m_bar_69, .ref m_pace_70, .ref m_rides_71, .ref m_isOut_72, .ref m_metre_73, .ref m_charge_74, .ref m_held_75, .ref m_seconds_76, .ref m_heldOften_77, .ref m_work_78, .ref m_primeSeconds_79, .int 0, .long 0, .ref m_row_80, .int 0, .ref m_groupSize_81, .ref m_place_82, .ref m_stood_83, .ref m_history_84, .ref m_groupHistory_85, .int 0, .int 0, .int 0, .int 0, .ref m_didRide_86, .ref m_toldRow_87, .ref m_passedBy_88, .ref m_total_89, .ref m_points_90, .ref m_used_91]))]) hD hS hA [0] rfl
      refine va_calli (va_runV (As := [.int (xs (Int32.toNatClampNeg 1)), .int (xs (Int32.toNatClampNeg 2))]) (rest := [.int (-1)]) ⟨hx, hb, hml, hown, hts⟩ (c_X10_sum l dC dI cI cZ (H).size q_57 m_teamOf_58 m_steady_59 m_full_60 m_climb_61 m_rises_62 m_winds_63 m_primeAt_64 m_tape_65 m_clauses_66 m_letter_67 m_sign_68 m_bar_69 m_pace_70 m_rides_71 m_isOut_72 m_metre_73 m_charge_74 m_held_75 m_seconds_76 m_heldOften_77 m_work_78 m_primeSeconds_79 m_row_80 m_groupSize_81 m_place_82 m_stood_83 m_history_84 m_groupHistory_85 m_didRide_86 m_toldRow_87 m_passedBy_88 m_total_89 m_points_90 m_used_91 (xs (Int32.toNatClampNeg 1)) ((xs (Int32.toNatClampNeg 1)).toInt) rfl (xs (Int32.toNatClampNeg 2)) ((xs (Int32.toNatClampNeg 2)).toInt) rfl) ⟨callB_of 2 hts (zz_goodL zw_1060) rfl rfl rfl hw7 hw122 (by decide +kernel) ⟨Nat.le_of_ble_eq_true rfl, Nat.le_of_ble_eq_true rfl⟩, hw123, hw124⟩ ⟨fun a U g mk q => by obtain ⟨q0, q1, qP, qK, qD⟩ := q; exact ⟨q0, q1, qP, va_K.moved (u := U) (U := U.calling g mk a) (Vm.Alike.refl U.vm) qK, qD⟩, va_recv hK hPc (ci := 10) (q0 := 0) rfl rfl, fun U hU hW => ⟨rfl, by rw [hU], by rw [hU]; exact hPc, va_K.moved hW.alike hK, hDc.weaken (fun _ _ _ _ => trivial)⟩⟩ rfl rfl hl.1 rfl (lv_room (Nat.le_of_ble_eq_true rfl)) dL_law_709 ⟨Nat.le_of_ble_eq_true rfl, Nat.le_of_ble_eq_true rfl⟩) hS (fun q _ h => hFc q h) hFc (fun r_352 u t H1 locs ht hvm hpost hB hz1 hk1 hS => ?_)
      subst hpost
      obtain ⟨hf_353, hP1, hK1, hD1⟩ := hB
      rw [ht] at hP1
      obtain ⟨hP, hD⟩ := va_join (wr := []) (w1 := []) hP hD [0] [] rfl rfl (by decide) (by decide) hk1 hFc hP1 hD1
      generalize H1 = H at hP hS ⊢
      have hP : va_P (dC, dI) vwCl [] H := hP
      have hD : va_D (fun q : Nat => s.heap.size ≤ q) [] := hD
      have hf_353 : r_352.toInt = -1 := hf_353
      obtain rfl : r_352 = (-1) := Int32.toInt_inj.mp (hf_353.trans (by decide))
      refine lv_icmp_eq (tgt := 931) hx hb dL_law_712 (by decide) (fun c_354 => ?_) (fun c_354 => ?_)
      ·
        refine lv_iinc (v := 7) (lv' := [(3, .int 7), (2, .ref q_57), (1, .ref q_1), (0, .ref b)]) hx hb dL_law_931 hl (k := 0) rfl (by decide) (by decide) rfl (fun ls hl => ?_)
        refine lv_goto (tgt := 18) hx hb dL_law_934 (by decide) ?_
        refine lv_iload_n hx hb dL_law_18 rfl (lv_at hl 0 rfl) ?_
        refine lv_aload_n hx hb dL_law_19 rfl (lv_at hl 3 rfl) ?_
        refine va_slen hx hb hX hbl hbA hS dL_law_20 ?_
        refine lv_bipush (v := 7) hx hb dL_law_21 (by decide) ?_
        refine lv_isub hx hb dL_law_23 ?_
        refine lv_topi (fun v_355 ev_355 => ?_)
        have hv_355 : v_355.toInt = ((L : Int) - (7:Int)) := by rw [ev_355]; exact zz_subI (nI_toInt (by omega)) (by decide) (by omega) (by omega)
        refine lv_icmp_gt (tgt := 937) hx hb dL_law_24 (by decide) (fun c_356 => ?_) (fun c_356 => ?_)
        ·
          have c_356 : ((L : Int) - (7:Int)) < (7:Int) := zz_lt hv_355 (by decide) c_356
          refine lv_iconst (v := 1) hx hb dL_law_937 (by decide) ?_
          refine va_forget (fun q hq => hS.2.2 q hq) ?_
          refine W.widen (k := 91) (n := 20364) (Nat.le_of_ble_eq_true rfl) (Nat.le_of_ble_eq_true rfl) ?_
          exact lw_ret hx hb hr hlocks dL_law_938
        ·
          have c_356 : ¬ (((L : Int) - (7:Int)) < (7:Int)) := zz_ltn hv_355 (by decide) c_356
          exact absurd c_356 (by omega)
      ·
        exact absurd c_354 (by decide)
    ·
      refine lv_tableIn (tgt := 717) (off := 684) hx hb dL_law_33 (by rw [hs_95]; omega) (by rw [hs_95]; omega) (by rw [hs_95, q_96]; rfl) (by decide) ?_
      have hP := hP.sub (ws' := [(q_1, .inr (9, [.ref x_riders_2, .ref x_road_7, .ref x_tape_11, .ref x_book_13, .ref x_reader_19, .ref x_latest_20, .ref x_log_35, .ref x_trial_38, .ref x_stages_53, .int 0, .int 0, .int 0])), (x_riders_2, .inr (5, [.int 0, .ref x_ri_teams_3, .ref x_ri_steady_4, .ref x_ri_full_5, .ref x_ri_climb_6])), (x_stages_53, .inr (7, [.int 0, .int 20, .ref x_sg_totals_54, .ref x_sg_points_55, .ref x_sg_out_56])), (q_57, .inr (10, [.int 0, .int 1, .int 0, .int (-1), .int 0, .int 0, .int 0, .int 20, .ref m_teamOf_58, .ref m_steady_59, .ref m_full_60, .ref m_climb_61, .ref m_rises_62, .ref m_winds_63, .ref m_primeAt_64, .ref m_tape_65, .int 0, .int 0, .int 0, .ref m_clauses_66, .ref m_letter_67, .ref m_sign_68, .ref m_bar_69, .ref m_pace_70, .ref m_rides_71, .ref m_isOut_72, .ref m_metre_73, .ref m_charge_74, .ref m_held_75, .ref m_seconds_76, .ref m_heldOften_77, .ref m_work_78, .ref m_primeSeconds_79, .int 0, .long 0, .ref m_row_80, .int 0, .ref m_groupSize_81, .ref m_place_82, .ref m_stood_83, .ref m_history_84, .ref m_groupHistory_85, .int 0, .int 0, .int 0, .int 0, .ref m_didRide_86, .ref m_toldRow_87, .ref m_passedBy_88, .ref m_total_89, .ref m_points_90, .ref m_used_91])), (m_used_91, .inl (cZ, 20, .inl (fun _ => 0)))]) [0, 1, 52, 56, 90] rfl
      have hD := hD.sub (ws' := [(q_1, .inr (9, [.ref x_riders_2, .ref x_road_7, .ref x_tape_11, .ref x_book_13, .ref x_reader_19, .ref x_latest_20, .ref x_log_35, .ref x_trial_38, .ref x_stages_53, .int 0, .int 0, .int 0])), (x_riders_2, .inr (5, [.int 0, .ref x_ri_teams_3, .ref x_ri_steady_4, .ref x_ri_full_5, .ref x_ri_climb_6])), (x_stages_53, .inr (7, [.int 0, .int 20, .ref x_sg_totals_54, .ref x_sg_points_55, .ref x_sg_out_56])), (q_57, .inr (10, [.int 0, .int 1, .int 0, .int (-1), .int 0, .int 0, .int 0, .int 20, .ref m_teamOf_58, .ref m_steady_59, .ref m_full_60, .ref m_climb_61, .ref m_rises_62, .ref m_winds_63, .ref m_primeAt_64, .ref m_tape_65, .int 0, .int 0, .int 0, .ref m_clauses_66, .ref m_letter_67, .ref m_sign_68, .ref m_bar_69, .ref m_pace_70, .ref m_rides_71, .ref m_isOut_72, .ref m_metre_73, .ref m_charge_74, .ref m_held_75, .ref m_seconds_76, .ref m_heldOften_77, .ref m_work_78, .ref m_primeSeconds_79, .int 0, .long 0, .ref m_row_80, .int 0, .ref m_groupSize_81, .ref m_place_82, .ref m_stood_83, .ref m_history_84, .ref m_groupHistory_85, .int 0, .int 0, .int 0, .int 0, .ref m_didRide_86, .ref m_toldRow_87, .ref m_passedBy_88, .ref m_total_89, .ref m_points_90, .ref m_used_91])), (m_used_91, .inl (cZ, 20, .inl (fun _ => 0)))]) [0, 1, 52, 56, 90] (by decide) rfl
      refine lv_aload_n hx hb dL_law_717 rfl (lv_at hl 2 rfl) ?_
      refine lv_aload_n hx hb dL_law_718 rfl (lv_at hl 3 rfl) ?_
      refine lv_iload_n hx hb dL_law_719 rfl (lv_at hl 0 rfl) ?_
      refine lv_iconst (v := 1) hx hb dL_law_720 (by decide) ?_
      refine lv_iadd hx hb dL_law_721 ?_
      refine lv_topi (fun v_357 ev_357 => ?_)
      obtain rfl : v_357 = 1 := ev_357.trans (by decide)
      refine va_sld hx hb hX hbl hbA hS (zz_in (a := (1:Int)) (by decide) (by omega) (by omega)) dL_law_722 ?_
      have hPc := hP.sub (ws' := [(q_1, .inr (9, [.ref x_riders_2, .ref x_road_7, .ref x_tape_11, .ref x_book_13, .ref x_reader_19, .ref x_latest_20, .ref x_log_35, .ref x_trial_38, .ref x_stages_53, .int 0, .int 0, .int 0])), (x_riders_2, .inr (5, [.int 0, .ref x_ri_teams_3, .ref x_ri_steady_4, .ref x_ri_full_5, .ref x_ri_climb_6])), (x_stages_53, .inr (7, [.int 0, .int 20, .ref x_sg_totals_54, .ref x_sg_points_55, .ref x_sg_out_56]))]) [0, 1, 2] rfl
      have hDc := hD.sub (ws' := [(q_1, .inr (9, [.ref x_riders_2, .ref x_road_7, .ref x_tape_11, .ref x_book_13, .ref x_reader_19, .ref x_latest_20, .ref x_log_35, .ref x_trial_38, .ref x_stages_53, .int 0, .int 0, .int 0])), (x_riders_2, .inr (5, [.int 0, .ref x_ri_teams_3, .ref x_ri_steady_4, .ref x_ri_full_5, .ref x_ri_climb_6])), (x_stages_53, .inr (7, [.int 0, .int 20, .ref x_sg_totals_54, .ref x_sg_points_55, .ref x_sg_out_56]))]) [0, 1, 2] (by decide) rfl
      have hFc := va_free (wc := [(q_1, .inr (9, [.ref x_riders_2, .ref x_road_7, .ref x_tape_11, .ref x_book_13, .ref x_reader_19, .ref x_latest_20, .ref x_log_35, .ref x_trial_38, .ref x_stages_53, .int 0, .int 0, .int 0])), (x_riders_2, .inr (5, [.int 0, .ref x_ri_teams_3, .ref x_ri_steady_4, .ref x_ri_full_5, .ref x_ri_climb_6])), (x_stages_53, .inr (7, [.int 0, .int 20, .ref x_sg_totals_54, .ref x_sg_points_55, .ref x_sg_out_56]))]) hD hS hA [0, 1, 2] rfl
      refine va_calli (va_runV (As := [.int (xs (Int32.toNatClampNeg 1))]) (rest := []) ⟨hx, hb, hml, hown, hts⟩ (c_X9_team l dC dI cI cZ (H).size q_1 x_riders_2 x_road_7 x_tape_11 x_book_13 x_reader_19 x_latest_20 x_log_35 x_trial_38 x_stages_53 x_ri_teams_3 x_ri_steady_4 x_ri_full_5 x_ri_climb_6 x_sg_totals_54 x_sg_points_55 x_sg_out_56 (xs (Int32.toNatClampNeg 1)) ((xs (Int32.toNatClampNeg 1)).toInt) rfl) ⟨callB_of 1 hts (zz_goodL zw_680) rfl rfl rfl hw2 hw125 (by decide +kernel) ⟨Nat.le_of_ble_eq_true rfl, Nat.le_of_ble_eq_true rfl⟩, hw126, hw127⟩ ⟨fun a U g mk q => by obtain ⟨q0, q1, qP, qK, qD⟩ := q; exact ⟨q0, q1, qP, va_K.moved (u := U) (U := U.calling g mk a) (Vm.Alike.refl U.vm) qK, qD⟩, va_recv hK hPc (ci := 9) (q0 := 0) rfl rfl, fun U hU hW => ⟨rfl, by rw [hU], by rw [hU]; exact hPc, va_K.moved hW.alike hK, hDc.weaken (fun _ _ _ _ => trivial)⟩⟩ rfl rfl hl.1 rfl (lv_room (Nat.le_of_ble_eq_true rfl)) dL_law_723 ⟨Nat.le_of_ble_eq_true rfl, Nat.le_of_ble_eq_true rfl⟩) hS (fun q _ h => hFc q h) hFc (fun r_358 u t H1 locs ht hvm hpost hB hz1 hk1 hS => ?_)
      subst hpost
      obtain ⟨hf_359, hP1, hK1, hD1⟩ := hB
      rw [ht] at hP1
      obtain ⟨hP, hD⟩ := va_join (wr := [(q_57, .inr (10, [.int 0, .int 1, .int 0, .int (-1), .int 0, .int 0, .int 0, .int 20, .ref m_teamOf_58, .ref m_steady_59, .ref m_full_60, .ref m_climb_61, .ref m_rises_62, .ref m_winds_63, .ref m_primeAt_64, .ref m_tape_65, .int 0, .int 0, .int 0, .ref m_clauses_66, .ref m_letter_67, .ref m_sign_68, .ref m_bar_69, .ref m_pace_70, .ref m_rides_71, .ref m_isOut_72, .ref m_metre_73, .ref m_charge_74, .ref m_held_75, .ref m_seconds_76, .ref m_heldOften_77, .ref m_work_78, .ref m_primeSeconds_79, .int 0, .long 0, .ref m_row_80, .int 0, .ref m_groupSize_81, .ref m_place_82, .ref m_stood_83, .ref m_history_84, .ref m_groupHistory_85, .int 0, .int 0, .int 0, .int 0, .ref m_didRide_86, .ref m_toldRow_87, .ref m_passedBy_88, .ref m_total_89, .ref m_points_90, .ref m_used_91])), (m_used_91, .inl (cZ, 20, .inl (fun _ => 0)))]) (w1 := []) hP hD [0, 1, 2] [3, 4] rfl rfl (by decide) (by decide) hk1 hFc hP1 hD1
      generalize H1 = H at hP hS ⊢
      have hP : va_P (dC, dI) vwCl [(q_57, .inr (10, [.int 0, .int 1, .int 0, .int (-1), .int 0, .int 0, .int 0, .int 20, .ref m_teamOf_58, .ref m_steady_59, .ref m_full_60, .ref m_climb_61, .ref m_rises_62, .ref m_winds_63, .ref m_primeAt_64, .ref m_tape_65, .int 0, .int 0, .int 0, .ref m_clauses_66, .ref m_letter_67, .ref m_sign_68, .ref m_bar_69, .ref m_pace_70, .ref m_rides_71, .ref m_isOut_72, .ref m_metre_73, .ref m_charge_74, .ref m_held_75, .ref m_seconds_76, .ref m_heldOften_77, .ref m_work_78, .ref m_primeSeconds_79, .int 0, .long 0, .ref m_row_80, .int 0, .ref m_groupSize_81, .ref m_place_82, .ref m_stood_83, .ref m_history_84, .ref m_groupHistory_85, .int 0, .int 0, .int 0, .int 0, .ref m_didRide_86, .ref m_toldRow_87, .ref m_passedBy_88, .ref m_total_89, .ref m_points_90, .ref m_used_91])), (m_used_91, .inl (cZ, 20, .inl (fun _ => 0)))] H := hP
      have hD : va_D (fun q : Nat => s.heap.size ≤ q) [(q_57, .inr (10, [.int 0, .int 1, .int 0, .int (-1), .int 0, .int 0, .int 0, .int 20, .ref m_teamOf_58, .ref m_steady_59, .ref m_full_60, .ref m_climb_61, .ref m_rises_62, .ref m_winds_63, .ref m_primeAt_64, .ref m_tape_65, .int 0, .int 0, .int 0, .ref m_clauses_66, .ref m_letter_67, .ref m_sign_68, .ref m_bar_69, .ref m_pace_70, .ref m_rides_71, .ref m_isOut_72, .ref m_metre_73, .ref m_charge_74, .ref m_held_75, .ref m_seconds_76, .ref m_heldOften_77, .ref m_work_78, .ref m_primeSeconds_79, .int 0, .long 0, .ref m_row_80, .int 0, .ref m_groupSize_81, .ref m_place_82, .ref m_stood_83, .ref m_history_84, .ref m_groupHistory_85, .int 0, .int 0, .int 0, .int 0, .ref m_didRide_86, .ref m_toldRow_87, .ref m_passedBy_88, .ref m_total_89, .ref m_points_90, .ref m_used_91])), (m_used_91, .inl (cZ, 20, .inl (fun _ => 0)))] := hD
      have hf_359 : r_358.toInt = -1 := hf_359
      obtain rfl : r_358 = (-1) := Int32.toInt_inj.mp (hf_359.trans (by decide))
      refine lv_aload_n hx hb dL_law_726 rfl (lv_at hl 1 rfl) ?_
      refine lv_aload_n hx hb dL_law_727 rfl (lv_at hl 3 rfl) ?_
      refine lv_iload_n hx hb dL_law_728 rfl (lv_at hl 0 rfl) ?_
      refine lv_iconst (v := 1) hx hb dL_law_729 (by decide) ?_
      refine lv_iadd hx hb dL_law_730 ?_
      refine lv_topi (fun v_360 ev_360 => ?_)
      obtain rfl : v_360 = 1 := ev_360.trans (by decide)
      refine va_sld hx hb hX hbl hbA hS (zz_in (a := (1:Int)) (by decide) (by omega) (by omega)) dL_law_731 ?_
      have hPc := hP.sub (ws' := [(q_57, .inr (10, [.int 0, .int 1, .int 0, .int (-1), .int 0, .int 0, .int 0, .int 20, .ref m_teamOf_58, .ref m_steady_59, .ref m_full_60, .ref m_climb_61, .ref m_rises_62, .ref m_winds_63, .ref m_primeAt_64, .ref m_tape_65, .int 0, .int 0, .int 0, .ref m_clauses_66, .ref m_letter_67, .ref m_sign_68, .ref m_bar_69, .ref m_pace_70, .ref m_rides_71, .ref m_isOut_72, .ref m_metre_73, .ref m_charge_74, .ref m_held_75, .ref m_seconds_76, .ref m_heldOften_77, .ref m_work_78, .ref m_primeSeconds_79, .int 0, .long 0, .ref m_row_80, .int 0, .ref m_groupSize_81, .ref m_place_82, .ref m_stood_83, .ref m_history_84, .ref m_groupHistory_85, .int 0, .int 0, .int 0, .int 0, .ref m_didRide_86, .ref m_toldRow_87, .ref m_passedBy_88, .ref m_total_89, .ref m_points_90, .ref m_used_91])), (m_used_91, .inl (cZ, 20, .inl (fun _ => 0)))]) [0, 1] rfl
      have hDc := hD.sub (ws' := [(q_57, .inr (10, [.int 0, .int 1, .int 0, .int (-1), .int 0, .int 0, .int 0, .int 20, .ref m_teamOf_58, .ref m_steady_59, .ref m_full_60, .ref m_climb_61, .ref m_rises_62, .ref m_winds_63, .ref m_primeAt_64, .ref m_tape_65, .int 0, .int 0, .int 0, .ref m_clauses_66, .ref m_letter_67, .ref m_sign_68, .ref m_bar_69, .ref m_pace_70, .ref m_rides_71, .ref m_isOut_72, .ref m_metre_73, .ref m_charge_74, .ref m_held_75, .ref m_seconds_76, .ref m_heldOften_77, .ref m_work_78, .ref m_primeSeconds_79, .int 0, .long 0, .ref m_row_80, .int 0, .ref m_groupSize_81, .ref m_place_82, .ref m_stood_83, .ref m_history_84, .ref m_groupHistory_85, .int 0, .int 0, .int 0, .int 0, .ref m_didRide_86, .ref m_toldRow_87, .ref m_passedBy_88, .ref m_total_89, .ref m_points_90, .ref m_used_91])), (m_used_91, .inl (cZ, 20, .inl (fun _ => 0)))]) [0, 1] (by decide) rfl
      have hFc := va_free (wc := [(q_57, .inr (10, [.int 0, .int 1, .int 0, .int (-1), .int 0, .int 0, .int 0, .int 20, .ref m_teamOf_58, .ref m_steady_59, .ref m_full_60, .ref m_climb_61, .ref m_rises_62, .ref m_winds_63, .ref m_primeAt_64, .ref m_tape_65, .int 0, .int 0, .int 0, .ref m_clauses_66, .ref m_letter_67, .ref m_sign_68, .ref m_bar_69, .ref m_pace_70, .ref m_rides_71, .ref m_isOut_72, .ref m_metre_73, .ref m_charge_74, .ref m_held_75, .ref m_seconds_76, .ref m_heldOften_77, .ref m_work_78, .ref m_primeSeconds_79, .int 0, .long 0, .ref m_row_80, .int 0, .ref m_groupSize_81, .ref m_place_82, .ref m_stood_83, .ref m_history_84, .ref m_groupHistory_85, .int 0, .int 0, .int 0, .int 0, .ref m_didRide_86, .ref m_toldRow_87, .ref m_passedBy_88, .ref m_total_89, .ref m_points_90, .ref m_used_91])), (m_used_91, .inl (cZ, 20, .inl (fun _ => 0)))]) hD hS hA [0, 1] rfl
      refine va_calli (va_runV (As := [.int (xs (Int32.toNatClampNeg 1))]) (rest := [.int (-1)]) ⟨hx, hb, hml, hown, hts⟩ (c_X10_team l dC dI cI cZ (H).size q_57 m_teamOf_58 m_steady_59 m_full_60 m_climb_61 m_rises_62 m_winds_63 m_primeAt_64 m_tape_65 m_clauses_66 m_letter_67 m_sign_68 m_bar_69 m_pace_70 m_rides_71 m_isOut_72 m_metre_73 m_charge_74 m_held_75 m_seconds_76 m_heldOften_77 m_work_78 m_primeSeconds_79 m_row_80 m_groupSize_81 m_place_82 m_stood_83 m_history_84 m_groupHistory_85 m_didRide_86 m_toldRow_87 m_passedBy_88 m_total_89 m_points_90 m_used_91 (xs (Int32.toNatClampNeg 1)) ((xs (Int32.toNatClampNeg 1)).toInt) rfl) ⟨callB_of 1 hts (zz_goodL zw_1072) rfl rfl rfl hw7 hw128 (by decide +kernel) ⟨Nat.le_of_ble_eq_true rfl, Nat.le_of_ble_eq_true rfl⟩, hw129, hw130⟩ ⟨fun a U g mk q => by obtain ⟨q0, q1, qP, qK, qD⟩ := q; exact ⟨q0, q1, qP, va_K.moved (u := U) (U := U.calling g mk a) (Vm.Alike.refl U.vm) qK, qD⟩, va_recv hK hPc (ci := 10) (q0 := 0) rfl rfl, fun U hU hW => ⟨rfl, by rw [hU], by rw [hU]; exact hPc, va_K.moved hW.alike hK, hDc.weaken (fun _ _ _ _ => trivial)⟩⟩ rfl rfl hl.1 rfl (lv_room (Nat.le_of_ble_eq_true rfl)) dL_law_732 ⟨Nat.le_of_ble_eq_true rfl, Nat.le_of_ble_eq_true rfl⟩) hS (fun q _ h => hFc q h) hFc (fun r_361 u t H1 locs ht hvm hpost hB hz1 hk1 hS => ?_)
      subst hpost
      obtain ⟨hf_362, hP1, hK1, hD1⟩ := hB
      rw [ht] at hP1
      obtain ⟨hP, hD⟩ := va_join (wr := []) (w1 := []) hP hD [0, 1] [] rfl rfl (by decide) (by decide) hk1 hFc hP1 hD1
      generalize H1 = H at hP hS ⊢
      have hP : va_P (dC, dI) vwCl [] H := hP
      have hD : va_D (fun q : Nat => s.heap.size ≤ q) [] := hD
      have hf_362 : r_361.toInt = -1 := hf_362
      obtain rfl : r_361 = (-1) := Int32.toInt_inj.mp (hf_362.trans (by decide))
      refine lv_icmp_eq (tgt := 931) hx hb dL_law_735 (by decide) (fun c_363 => ?_) (fun c_363 => ?_)
      ·
        refine lv_iinc (v := 7) (lv' := [(3, .int 7), (2, .ref q_57), (1, .ref q_1), (0, .ref b)]) hx hb dL_law_931 hl (k := 0) rfl (by decide) (by decide) rfl (fun ls hl => ?_)
        refine lv_goto (tgt := 18) hx hb dL_law_934 (by decide) ?_
        refine lv_iload_n hx hb dL_law_18 rfl (lv_at hl 0 rfl) ?_
        refine lv_aload_n hx hb dL_law_19 rfl (lv_at hl 3 rfl) ?_
        refine va_slen hx hb hX hbl hbA hS dL_law_20 ?_
        refine lv_bipush (v := 7) hx hb dL_law_21 (by decide) ?_
        refine lv_isub hx hb dL_law_23 ?_
        refine lv_topi (fun v_364 ev_364 => ?_)
        have hv_364 : v_364.toInt = ((L : Int) - (7:Int)) := by rw [ev_364]; exact zz_subI (nI_toInt (by omega)) (by decide) (by omega) (by omega)
        refine lv_icmp_gt (tgt := 937) hx hb dL_law_24 (by decide) (fun c_365 => ?_) (fun c_365 => ?_)
        ·
          have c_365 : ((L : Int) - (7:Int)) < (7:Int) := zz_lt hv_364 (by decide) c_365
          refine lv_iconst (v := 1) hx hb dL_law_937 (by decide) ?_
          refine va_forget (fun q hq => hS.2.2 q hq) ?_
          refine W.widen (k := 91) (n := 20364) (Nat.le_of_ble_eq_true rfl) (Nat.le_of_ble_eq_true rfl) ?_
          exact lw_ret hx hb hr hlocks dL_law_938
        ·
          have c_365 : ¬ (((L : Int) - (7:Int)) < (7:Int)) := zz_ltn hv_364 (by decide) c_365
          exact absurd c_365 (by omega)
      ·
        exact absurd c_363 (by decide)
    ·
      refine lv_tableIn (tgt := 740) (off := 707) hx hb dL_law_33 (by rw [hs_95]; omega) (by rw [hs_95]; omega) (by rw [hs_95, q_96]; rfl) (by decide) ?_
      have hP := hP.sub (ws' := [(q_1, .inr (9, [.ref x_riders_2, .ref x_road_7, .ref x_tape_11, .ref x_book_13, .ref x_reader_19, .ref x_latest_20, .ref x_log_35, .ref x_trial_38, .ref x_stages_53, .int 0, .int 0, .int 0])), (x_riders_2, .inr (5, [.int 0, .ref x_ri_teams_3, .ref x_ri_steady_4, .ref x_ri_full_5, .ref x_ri_climb_6])), (x_road_7, .inr (6, [.int 1, .ref x_ro_rises_8, .ref x_ro_winds_9, .int 0, .ref x_ro_primeMetres_10, .int 0, .int 0])), (q_57, .inr (10, [.int 0, .int 1, .int 0, .int (-1), .int 0, .int 0, .int 0, .int 20, .ref m_teamOf_58, .ref m_steady_59, .ref m_full_60, .ref m_climb_61, .ref m_rises_62, .ref m_winds_63, .ref m_primeAt_64, .ref m_tape_65, .int 0, .int 0, .int 0, .ref m_clauses_66, .ref m_letter_67, .ref m_sign_68, .ref m_bar_69, .ref m_pace_70, .ref m_rides_71, .ref m_isOut_72, .ref m_metre_73, .ref m_charge_74, .ref m_held_75, .ref m_seconds_76, .ref m_heldOften_77, .ref m_work_78, .ref m_primeSeconds_79, .int 0, .long 0, .ref m_row_80, .int 0, .ref m_groupSize_81, .ref m_place_82, .ref m_stood_83, .ref m_history_84, .ref m_groupHistory_85, .int 0, .int 0, .int 0, .int 0, .ref m_didRide_86, .ref m_toldRow_87, .ref m_passedBy_88, .ref m_total_89, .ref m_points_90, .ref m_used_91]))]) [0, 1, 6, 56] rfl
      have hD := hD.sub (ws' := [(q_1, .inr (9, [.ref x_riders_2, .ref x_road_7, .ref x_tape_11, .ref x_book_13, .ref x_reader_19, .ref x_latest_20, .ref x_log_35, .ref x_trial_38, .ref x_stages_53, .int 0, .int 0, .int 0])), (x_riders_2, .inr (5, [.int 0, .ref x_ri_teams_3, .ref x_ri_steady_4, .ref x_ri_full_5, .ref x_ri_climb_6])), (x_road_7, .inr (6, [.int 1, .ref x_ro_rises_8, .ref x_ro_winds_9, .int 0, .ref x_ro_primeMetres_10, .int 0, .int 0])), (q_57, .inr (10, [.int 0, .int 1, .int 0, .int (-1), .int 0, .int 0, .int 0, .int 20, .ref m_teamOf_58, .ref m_steady_59, .ref m_full_60, .ref m_climb_61, .ref m_rises_62, .ref m_winds_63, .ref m_primeAt_64, .ref m_tape_65, .int 0, .int 0, .int 0, .ref m_clauses_66, .ref m_letter_67, .ref m_sign_68, .ref m_bar_69, .ref m_pace_70, .ref m_rides_71, .ref m_isOut_72, .ref m_metre_73, .ref m_charge_74, .ref m_held_75, .ref m_seconds_76, .ref m_heldOften_77, .ref m_work_78, .ref m_primeSeconds_79, .int 0, .long 0, .ref m_row_80, .int 0, .ref m_groupSize_81, .ref m_place_82, .ref m_stood_83, .ref m_history_84, .ref m_groupHistory_85, .int 0, .int 0, .int 0, .int 0, .ref m_didRide_86, .ref m_toldRow_87, .ref m_passedBy_88, .ref m_total_89, .ref m_points_90, .ref m_used_91]))]) [0, 1, 6, 56] (by decide) rfl
      refine lv_aload_n hx hb dL_law_740 rfl (lv_at hl 2 rfl) ?_
      refine lv_aload_n hx hb dL_law_741 rfl (lv_at hl 3 rfl) ?_
      refine lv_iload_n hx hb dL_law_742 rfl (lv_at hl 0 rfl) ?_
      refine lv_iconst (v := 1) hx hb dL_law_743 (by decide) ?_
      refine lv_iadd hx hb dL_law_744 ?_
      refine lv_topi (fun v_366 ev_366 => ?_)
      obtain rfl : v_366 = 1 := ev_366.trans (by decide)
      refine va_sld hx hb hX hbl hbA hS (zz_in (a := (1:Int)) (by decide) (by omega) (by omega)) dL_law_745 ?_
      refine lv_aload_n hx hb dL_law_746 rfl (lv_at hl 3 rfl) ?_
      refine lv_iload_n hx hb dL_law_747 rfl (lv_at hl 0 rfl) ?_
      refine lv_iconst (v := 2) hx hb dL_law_748 (by decide) ?_
      refine lv_iadd hx hb dL_law_749 ?_
      refine lv_topi (fun v_367 ev_367 => ?_)
      obtain rfl : v_367 = 2 := ev_367.trans (by decide)
      refine va_sld hx hb hX hbl hbA hS (zz_in (a := (2:Int)) (by decide) (by omega) (by omega)) dL_law_750 ?_
      refine lv_aload_n hx hb dL_law_751 rfl (lv_at hl 3 rfl) ?_
      refine lv_iload_n hx hb dL_law_752 rfl (lv_at hl 0 rfl) ?_
      refine lv_iconst (v := 3) hx hb dL_law_753 (by decide) ?_
      refine lv_iadd hx hb dL_law_754 ?_
      refine lv_topi (fun v_368 ev_368 => ?_)
      obtain rfl : v_368 = 3 := ev_368.trans (by decide)
      refine va_sld hx hb hX hbl hbA hS (zz_in (a := (3:Int)) (by decide) (by omega) (by omega)) dL_law_755 ?_
      refine lv_aload_n hx hb dL_law_756 rfl (lv_at hl 3 rfl) ?_
      refine lv_iload_n hx hb dL_law_757 rfl (lv_at hl 0 rfl) ?_
      refine lv_iconst (v := 4) hx hb dL_law_758 (by decide) ?_
      refine lv_iadd hx hb dL_law_759 ?_
      refine lv_topi (fun v_369 ev_369 => ?_)
      obtain rfl : v_369 = 4 := ev_369.trans (by decide)
      refine va_sld hx hb hX hbl hbA hS (zz_in (a := (4:Int)) (by decide) (by omega) (by omega)) dL_law_760 ?_
      refine lv_aload_n hx hb dL_law_761 rfl (lv_at hl 3 rfl) ?_
      refine lv_iload_n hx hb dL_law_762 rfl (lv_at hl 0 rfl) ?_
      refine lv_iconst (v := 5) hx hb dL_law_763 (by decide) ?_
      refine lv_iadd hx hb dL_law_764 ?_
      refine lv_topi (fun v_370 ev_370 => ?_)
      obtain rfl : v_370 = 5 := ev_370.trans (by decide)
      refine va_sld hx hb hX hbl hbA hS (zz_in (a := (5:Int)) (by decide) (by omega) (by omega)) dL_law_765 ?_
      refine lv_i2l (v := (xs (Int32.toNatClampNeg 5)).toInt64) hx hb dL_law_766 rfl ?_
      refine lv_topl (fun y_371 ey_371 => ?_)
      refine lv_bipush (v := 32) hx hb dL_law_767 (by decide) ?_
      refine lv_lshl (v := y_371 <<< ((32 : Int32).toInt64 &&& 63)) hx hb dL_law_769 rfl ?_
      refine lv_topl (fun y_372 ey_372 => ?_)
      refine lv_aload_n hx hb dL_law_770 rfl (lv_at hl 3 rfl) ?_
      refine lv_iload_n hx hb dL_law_771 rfl (lv_at hl 0 rfl) ?_
      refine lv_bipush (v := 6) hx hb dL_law_772 (by decide) ?_
      refine lv_iadd hx hb dL_law_774 ?_
      refine lv_topi (fun v_373 ev_373 => ?_)
      obtain rfl : v_373 = 6 := ev_373.trans (by decide)
      refine va_sld hx hb hX hbl hbA hS (zz_in (a := (6:Int)) (by decide) (by omega) (by omega)) dL_law_775 ?_
      refine lv_i2l (v := (xs (Int32.toNatClampNeg 6)).toInt64) hx hb dL_law_776 rfl ?_
      refine lv_topl (fun y_374 ey_374 => ?_)
      refine lv_ldc2 (v := 4294967295) hx hb hown hw70 dL_law_777 ?_
      refine lv_land hx hb dL_law_780 ?_
      refine lv_topl (fun y_375 ey_375 => ?_)
      refine lv_lor hx hb dL_law_781 ?_
      refine lv_topl (fun y_376 ey_376 => ?_)
      have hPc := hP.sub (ws' := [(q_1, .inr (9, [.ref x_riders_2, .ref x_road_7, .ref x_tape_11, .ref x_book_13, .ref x_reader_19, .ref x_latest_20, .ref x_log_35, .ref x_trial_38, .ref x_stages_53, .int 0, .int 0, .int 0])), (x_riders_2, .inr (5, [.int 0, .ref x_ri_teams_3, .ref x_ri_steady_4, .ref x_ri_full_5, .ref x_ri_climb_6])), (x_road_7, .inr (6, [.int 1, .ref x_ro_rises_8, .ref x_ro_winds_9, .int 0, .ref x_ro_primeMetres_10, .int 0, .int 0]))]) [0, 1, 2] rfl
      have hDc := hD.sub (ws' := [(q_1, .inr (9, [.ref x_riders_2, .ref x_road_7, .ref x_tape_11, .ref x_book_13, .ref x_reader_19, .ref x_latest_20, .ref x_log_35, .ref x_trial_38, .ref x_stages_53, .int 0, .int 0, .int 0])), (x_riders_2, .inr (5, [.int 0, .ref x_ri_teams_3, .ref x_ri_steady_4, .ref x_ri_full_5, .ref x_ri_climb_6])), (x_road_7, .inr (6, [.int 1, .ref x_ro_rises_8, .ref x_ro_winds_9, .int 0, .ref x_ro_primeMetres_10, .int 0, .int 0]))]) [0, 1, 2] (by decide) rfl
      have hFc := va_free (wc := [(q_1, .inr (9, [.ref x_riders_2, .ref x_road_7, .ref x_tape_11, .ref x_book_13, .ref x_reader_19, .ref x_latest_20, .ref x_log_35, .ref x_trial_38, .ref x_stages_53, .int 0, .int 0, .int 0])), (x_riders_2, .inr (5, [.int 0, .ref x_ri_teams_3, .ref x_ri_steady_4, .ref x_ri_full_5, .ref x_ri_climb_6])), (x_road_7, .inr (6, [.int 1, .ref x_ro_rises_8, .ref x_ro_winds_9, .int 0, .ref x_ro_primeMetres_10, .int 0, .int 0]))]) hD hS hA [0, 1, 2] rfl
      refine va_calli (va_runV (As := [.int (xs (Int32.toNatClampNeg 1)), .int (xs (Int32.toNatClampNeg 2)), .int (xs (Int32.toNatClampNeg 3)), .int (xs (Int32.toNatClampNeg 4)), .long y_376]) (rest := []) ⟨hx, hb, hml, hown, hts⟩ (c_X9_attempt l dC dI cI cZ (H).size q_1 x_riders_2 x_road_7 x_tape_11 x_book_13 x_reader_19 x_latest_20 x_log_35 x_trial_38 x_stages_53 x_ri_teams_3 x_ri_steady_4 x_ri_full_5 x_ri_climb_6 x_ro_rises_8 x_ro_winds_9 x_ro_primeMetres_10 (xs (Int32.toNatClampNeg 1)) ((xs (Int32.toNatClampNeg 1)).toInt) rfl (xs (Int32.toNatClampNeg 2)) ((xs (Int32.toNatClampNeg 2)).toInt) rfl (xs (Int32.toNatClampNeg 3)) ((xs (Int32.toNatClampNeg 3)).toInt) rfl (xs (Int32.toNatClampNeg 4)) ((xs (Int32.toNatClampNeg 4)).toInt) rfl y_376) ⟨callB_of 5 hts (zz_goodL zw_696) rfl rfl rfl hw2 hw131 (by decide +kernel) ⟨Nat.le_of_ble_eq_true rfl, Nat.le_of_ble_eq_true rfl⟩, hw132, hw133⟩ ⟨fun a U g mk q => by obtain ⟨q0, q1, qP, qK, qD⟩ := q; exact ⟨q0, q1, qP, va_K.moved (u := U) (U := U.calling g mk a) (Vm.Alike.refl U.vm) qK, qD⟩, va_recv hK hPc (ci := 9) (q0 := 0) rfl rfl, fun U hU hW => ⟨rfl, by rw [hU], by rw [hU]; exact hPc, va_K.moved hW.alike hK, hDc.weaken (fun _ _ _ _ => trivial)⟩⟩ rfl rfl hl.1 rfl (lv_room (Nat.le_of_ble_eq_true rfl)) dL_law_782 ⟨Nat.le_of_ble_eq_true rfl, Nat.le_of_ble_eq_true rfl⟩) hS (fun q _ h => hFc q h) hFc (fun r_377 u t H1 locs ht hvm hpost hB hz1 hk1 hS => ?_)
      subst hpost
      obtain ⟨hf_378, hP1, hK1, hD1⟩ := hB
      rw [ht] at hP1
      obtain ⟨hP, hD⟩ := va_join (wr := [(q_57, .inr (10, [.int 0, .int 1, .int 0, .int (-1), .int 0, .int 0, .int 0, .int 20, .ref m_teamOf_58, .ref m_steady_59, .ref m_full_60, .ref m_climb_61, .ref m_rises_62, .ref m_winds_63, .ref m_primeAt_64, .ref m_tape_65, .int 0, .int 0, .int 0, .ref m_clauses_66, .ref m_letter_67, .ref m_sign_68, .ref m_bar_69, .ref m_pace_70, .ref m_rides_71, .ref m_isOut_72, .ref m_metre_73, .ref m_charge_74, .ref m_held_75, .ref m_seconds_76, .ref m_heldOften_77, .ref m_work_78, .ref m_primeSeconds_79, .int 0, .long 0, .ref m_row_80, .int 0, .ref m_groupSize_81, .ref m_place_82, .ref m_stood_83, .ref m_history_84, .ref m_groupHistory_85, .int 0, .int 0, .int 0, .int 0, .ref m_didRide_86, .ref m_toldRow_87, .ref m_passedBy_88, .ref m_total_89, .ref m_points_90, .ref m_used_91]))]) (w1 := []) hP hD [0, 1, 2] [3] rfl rfl (by decide) (by decide) hk1 hFc hP1 hD1
      generalize H1 = H at hP hS ⊢
      have hP : va_P (dC, dI) vwCl [(q_57, .inr (10, [.int 0, .int 1, .int 0, .int (-1), .int 0, .int 0, .int 0, .int 20, .ref m_teamOf_58, .ref m_steady_59, .ref m_full_60, .ref m_climb_61, .ref m_rises_62, .ref m_winds_63, .ref m_primeAt_64, .ref m_tape_65, .int 0, .int 0, .int 0, .ref m_clauses_66, .ref m_letter_67, .ref m_sign_68, .ref m_bar_69, .ref m_pace_70, .ref m_rides_71, .ref m_isOut_72, .ref m_metre_73, .ref m_charge_74, .ref m_held_75, .ref m_seconds_76, .ref m_heldOften_77, .ref m_work_78, .ref m_primeSeconds_79, .int 0, .long 0, .ref m_row_80, .int 0, .ref m_groupSize_81, .ref m_place_82, .ref m_stood_83, .ref m_history_84, .ref m_groupHistory_85, .int 0, .int 0, .int 0, .int 0, .ref m_didRide_86, .ref m_toldRow_87, .ref m_passedBy_88, .ref m_total_89, .ref m_points_90, .ref m_used_91]))] H := hP
      have hD : va_D (fun q : Nat => s.heap.size ≤ q) [(q_57, .inr (10, [.int 0, .int 1, .int 0, .int (-1), .int 0, .int 0, .int 0, .int 20, .ref m_teamOf_58, .ref m_steady_59, .ref m_full_60, .ref m_climb_61, .ref m_rises_62, .ref m_winds_63, .ref m_primeAt_64, .ref m_tape_65, .int 0, .int 0, .int 0, .ref m_clauses_66, .ref m_letter_67, .ref m_sign_68, .ref m_bar_69, .ref m_pace_70, .ref m_rides_71, .ref m_isOut_72, .ref m_metre_73, .ref m_charge_74, .ref m_held_75, .ref m_seconds_76, .ref m_heldOften_77, .ref m_work_78, .ref m_primeSeconds_79, .int 0, .long 0, .ref m_row_80, .int 0, .ref m_groupSize_81, .ref m_place_82, .ref m_stood_83, .ref m_history_84, .ref m_groupHistory_85, .int 0, .int 0, .int 0, .int 0, .ref m_didRide_86, .ref m_toldRow_87, .ref m_passedBy_88, .ref m_total_89, .ref m_points_90, .ref m_used_91]))] := hD
      have hf_378 : r_377.toInt = -1 := hf_378
      obtain rfl : r_377 = (-1) := Int32.toInt_inj.mp (hf_378.trans (by decide))
      refine lv_aload_n hx hb dL_law_785 rfl (lv_at hl 1 rfl) ?_
      refine lv_aload_n hx hb dL_law_786 rfl (lv_at hl 3 rfl) ?_
      refine lv_iload_n hx hb dL_law_787 rfl (lv_at hl 0 rfl) ?_
      refine lv_iconst (v := 1) hx hb dL_law_788 (by decide) ?_
      refine lv_iadd hx hb dL_law_789 ?_
      refine lv_topi (fun v_379 ev_379 => ?_)
      obtain rfl : v_379 = 1 := ev_379.trans (by decide)
      refine va_sld hx hb hX hbl hbA hS (zz_in (a := (1:Int)) (by decide) (by omega) (by omega)) dL_law_790 ?_
      refine lv_aload_n hx hb dL_law_791 rfl (lv_at hl 3 rfl) ?_
      refine lv_iload_n hx hb dL_law_792 rfl (lv_at hl 0 rfl) ?_
      refine lv_iconst (v := 2) hx hb dL_law_793 (by decide) ?_
      refine lv_iadd hx hb dL_law_794 ?_
      refine lv_topi (fun v_380 ev_380 => ?_)
      obtain rfl : v_380 = 2 := ev_380.trans (by decide)
      refine va_sld hx hb hX hbl hbA hS (zz_in (a := (2:Int)) (by decide) (by omega) (by omega)) dL_law_795 ?_
      refine lv_aload_n hx hb dL_law_796 rfl (lv_at hl 3 rfl) ?_
      refine lv_iload_n hx hb dL_law_797 rfl (lv_at hl 0 rfl) ?_
      refine lv_iconst (v := 3) hx hb dL_law_798 (by decide) ?_
      refine lv_iadd hx hb dL_law_799 ?_
      refine lv_topi (fun v_381 ev_381 => ?_)
      obtain rfl : v_381 = 3 := ev_381.trans (by decide)
      refine va_sld hx hb hX hbl hbA hS (zz_in (a := (3:Int)) (by decide) (by omega) (by omega)) dL_law_800 ?_
      refine lv_aload_n hx hb dL_law_801 rfl (lv_at hl 3 rfl) ?_
      refine lv_iload_n hx hb dL_law_802 rfl (lv_at hl 0 rfl) ?_
      refine lv_iconst (v := 4) hx hb dL_law_803 (by decide) ?_
      refine lv_iadd hx hb dL_law_804 ?_
      refine lv_topi (fun v_382 ev_382 => ?_)
      obtain rfl : v_382 = 4 := ev_382.trans (by decide)
      refine va_sld hx hb hX hbl hbA hS (zz_in (a := (4:Int)) (by decide) (by omega) (by omega)) dL_law_805 ?_
      refine lv_aload_n hx hb dL_law_806 rfl (lv_at hl 3 rfl) ?_
      refine lv_iload_n hx hb dL_law_807 rfl (lv_at hl 0 rfl) ?_
      refine lv_iconst (v := 5) hx hb dL_law_808 (by decide) ?_
      refine lv_iadd hx hb dL_law_809 ?_
      refine lv_topi (fun v_383 ev_383 => ?_)
      obtain rfl : v_383 = 5 := ev_383.trans (by decide)
      refine va_sld hx hb hX hbl hbA hS (zz_in (a := (5:Int)) (by decide) (by omega) (by omega)) dL_law_810 ?_
      refine lv_i2l (v := (xs (Int32.toNatClampNeg 5)).toInt64) hx hb dL_law_811 rfl ?_
      refine lv_topl (fun y_384 ey_384 => ?_)
      refine lv_bipush (v := 32) hx hb dL_law_812 (by decide) ?_
      refine lv_lshl (v := y_384 <<< ((32 : Int32).toInt64 &&& 63)) hx hb dL_law_814 rfl ?_
      refine lv_topl (fun y_385 ey_385 => ?_)
      refine lv_aload_n hx hb dL_law_815 rfl (lv_at hl 3 rfl) ?_
      refine lv_iload_n hx hb dL_law_816 rfl (lv_at hl 0 rfl) ?_
      refine lv_bipush (v := 6) hx hb dL_law_817 (by decide) ?_
      refine lv_iadd hx hb dL_law_819 ?_
      refine lv_topi (fun v_386 ev_386 => ?_)
      obtain rfl : v_386 = 6 := ev_386.trans (by decide)
      refine va_sld hx hb hX hbl hbA hS (zz_in (a := (6:Int)) (by decide) (by omega) (by omega)) dL_law_820 ?_
      refine lv_i2l (v := (xs (Int32.toNatClampNeg 6)).toInt64) hx hb dL_law_821 rfl ?_
      refine lv_topl (fun y_387 ey_387 => ?_)
      refine lv_ldc2 (v := 4294967295) hx hb hown hw70 dL_law_822 ?_
      refine lv_land hx hb dL_law_825 ?_
      refine lv_topl (fun y_388 ey_388 => ?_)
      refine lv_lor hx hb dL_law_826 ?_
      refine lv_topl (fun y_389 ey_389 => ?_)
      have hPc := hP.sub (ws' := [(q_57, .inr (10, [.int 0, .int 1, .int 0, .int (-1), .int 0, .int 0, .int 0, .int 20, .ref m_teamOf_58, .ref m_steady_59, .ref m_full_60, .ref m_climb_61, .ref m_rises_62, .ref m_winds_63, .ref m_primeAt_64, .ref m_tape_65, .int 0, .int 0, .int 0, .ref m_clauses_66, .ref m_letter_67, .ref m_sign_68, .ref m_bar_69, .ref m_pace_70, .ref m_rides_71, .ref m_isOut_72, .ref m_metre_73, .ref m_charge_74, .ref m_held_75, .ref m_seconds_76, .ref m_heldOften_77, .ref m_work_78, .ref m_primeSeconds_79, .int 0, .long 0, .ref m_row_80, .int 0, .ref m_groupSize_81, .ref m_place_82, .ref m_stood_83, .ref m_history_84, .ref m_groupHistory_85, .int 0, .int 0, .int 0, .int 0, .ref m_didRide_86, .ref m_toldRow_87, .ref m_passedBy_88, .ref m_total_89, .ref m_points_90, .ref m_used_91]))]) [0] rfl
      have hDc := hD.sub (ws' := [(q_57, .inr (10, [.int 0, .int 1, .int 0, .int (-1), .int 0, .int 0, .int 0, .int 20, .ref m_teamOf_58, .ref m_steady_59, .ref m_full_60, .ref m_climb_61, .ref m_rises_62, .ref m_winds_63, .ref m_primeAt_64, .ref m_tape_65, .int 0, .int 0, .int 0, .ref m_clauses_66, .ref m_letter_67, .ref m_sign_68, .ref m_bar_69, .ref m_pace_70, .ref m_rides_71, .ref m_isOut_72, .ref m_metre_73, .ref m_charge_74, .ref m_held_75, .ref m_seconds_76, .ref m_heldOften_77, .ref m_work_78, .ref m_primeSeconds_79, .int 0, .long 0, .ref m_row_80, .int 0, .ref m_groupSize_81, .ref m_place_82, .ref m_stood_83, .ref m_history_84, .ref m_groupHistory_85, .int 0, .int 0, .int 0, .int 0, .ref m_didRide_86, .ref m_toldRow_87, .ref m_passedBy_88, .ref m_total_89, .ref m_points_90, .ref m_used_91]))]) [0] (by decide) rfl
      have hFc := va_free (wc := [(q_57, .inr (10, [.int 0, .int 1, .int 0, .int (-1), .int 0, .int 0, .int 0, .int 20, .ref m_teamOf_58, .ref m_steady_59, .ref m_full_60, .ref m_climb_61, .ref m_rises_62, .ref m_winds_63, .ref m_primeAt_64, .ref m_tape_65, .int 0, .int 0, .int 0, .ref m_clauses_66, .ref m_letter_67, .ref m_sign_68, .ref m_bar_69, .ref m_pace_70, .ref m_rides_71, .ref m_isOut_72, .ref m_metre_73, .ref m_charge_74, .ref m_held_75, .ref m_seconds_76, .ref m_heldOften_77, .ref m_work_78, .ref m_primeSeconds_79, .int 0, .long 0, .ref m_row_80, .int 0, .ref m_groupSize_81, .ref m_place_82, .ref m_stood_83, .ref m_history_84, .ref m_groupHistory_85, .int 0, .int 0, .int 0, .int 0, .ref m_didRide_86, .ref m_toldRow_87, .ref m_passedBy_88, .ref m_total_89, .ref m_points_90, .ref m_used_91]))]) hD hS hA [0] rfl
      refine va_calli (va_runV (As := [.int (xs (Int32.toNatClampNeg 1)), .int (xs (Int32.toNatClampNeg 2)), .int (xs (Int32.toNatClampNeg 3)), .int (xs (Int32.toNatClampNeg 4)), .long y_389]) (rest := [.int (-1)]) ⟨hx, hb, hml, hown, hts⟩ (c_X10_attempt l dC dI cI cZ (H).size q_57 m_teamOf_58 m_steady_59 m_full_60 m_climb_61 m_rises_62 m_winds_63 m_primeAt_64 m_tape_65 m_clauses_66 m_letter_67 m_sign_68 m_bar_69 m_pace_70 m_rides_71 m_isOut_72 m_metre_73 m_charge_74 m_held_75 m_seconds_76 m_heldOften_77 m_work_78 m_primeSeconds_79 m_row_80 m_groupSize_81 m_place_82 m_stood_83 m_history_84 m_groupHistory_85 m_didRide_86 m_toldRow_87 m_passedBy_88 m_total_89 m_points_90 m_used_91 (xs (Int32.toNatClampNeg 1)) ((xs (Int32.toNatClampNeg 1)).toInt) rfl (xs (Int32.toNatClampNeg 2)) ((xs (Int32.toNatClampNeg 2)).toInt) rfl (xs (Int32.toNatClampNeg 3)) ((xs (Int32.toNatClampNeg 3)).toInt) rfl (xs (Int32.toNatClampNeg 4)) ((xs (Int32.toNatClampNeg 4)).toInt) rfl y_389) ⟨callB_of 5 hts (zz_goodL zw_1076) rfl rfl rfl hw7 hw134 (by decide +kernel) ⟨Nat.le_of_ble_eq_true rfl, Nat.le_of_ble_eq_true rfl⟩, hw135, hw136⟩ ⟨fun a U g mk q => by obtain ⟨q0, q1, qP, qK, qD⟩ := q; exact ⟨q0, q1, qP, va_K.moved (u := U) (U := U.calling g mk a) (Vm.Alike.refl U.vm) qK, qD⟩, va_recv hK hPc (ci := 10) (q0 := 0) rfl rfl, fun U hU hW => ⟨rfl, by rw [hU], by rw [hU]; exact hPc, va_K.moved hW.alike hK, hDc.weaken (fun _ _ _ _ => trivial)⟩⟩ rfl rfl hl.1 rfl (lv_room (Nat.le_of_ble_eq_true rfl)) dL_law_827 ⟨Nat.le_of_ble_eq_true rfl, Nat.le_of_ble_eq_true rfl⟩) hS (fun q _ h => hFc q h) hFc (fun r_390 u t H1 locs ht hvm hpost hB hz1 hk1 hS => ?_)
      subst hpost
      obtain ⟨hf_391, hP1, hK1, hD1⟩ := hB
      rw [ht] at hP1
      obtain ⟨hP, hD⟩ := va_join (wr := []) (w1 := []) hP hD [0] [] rfl rfl (by decide) (by decide) hk1 hFc hP1 hD1
      generalize H1 = H at hP hS ⊢
      have hP : va_P (dC, dI) vwCl [] H := hP
      have hD : va_D (fun q : Nat => s.heap.size ≤ q) [] := hD
      have hf_391 : r_390.toInt = -1 := hf_391
      obtain rfl : r_390 = (-1) := Int32.toInt_inj.mp (hf_391.trans (by decide))
      refine lv_icmp_eq (tgt := 931) hx hb dL_law_830 (by decide) (fun c_392 => ?_) (fun c_392 => ?_)
      ·
        refine lv_iinc (v := 7) (lv' := [(3, .int 7), (2, .ref q_57), (1, .ref q_1), (0, .ref b)]) hx hb dL_law_931 hl (k := 0) rfl (by decide) (by decide) rfl (fun ls hl => ?_)
        refine lv_goto (tgt := 18) hx hb dL_law_934 (by decide) ?_
        refine lv_iload_n hx hb dL_law_18 rfl (lv_at hl 0 rfl) ?_
        refine lv_aload_n hx hb dL_law_19 rfl (lv_at hl 3 rfl) ?_
        refine va_slen hx hb hX hbl hbA hS dL_law_20 ?_
        refine lv_bipush (v := 7) hx hb dL_law_21 (by decide) ?_
        refine lv_isub hx hb dL_law_23 ?_
        refine lv_topi (fun v_393 ev_393 => ?_)
        have hv_393 : v_393.toInt = ((L : Int) - (7:Int)) := by rw [ev_393]; exact zz_subI (nI_toInt (by omega)) (by decide) (by omega) (by omega)
        refine lv_icmp_gt (tgt := 937) hx hb dL_law_24 (by decide) (fun c_394 => ?_) (fun c_394 => ?_)
        ·
          have c_394 : ((L : Int) - (7:Int)) < (7:Int) := zz_lt hv_393 (by decide) c_394
          refine lv_iconst (v := 1) hx hb dL_law_937 (by decide) ?_
          refine va_forget (fun q hq => hS.2.2 q hq) ?_
          refine W.widen (k := 91) (n := 20364) (Nat.le_of_ble_eq_true rfl) (Nat.le_of_ble_eq_true rfl) ?_
          exact lw_ret hx hb hr hlocks dL_law_938
        ·
          have c_394 : ¬ (((L : Int) - (7:Int)) < (7:Int)) := zz_ltn hv_393 (by decide) c_394
          exact absurd c_394 (by omega)
      ·
        exact absurd c_392 (by decide)
    ·
      refine lv_tableIn (tgt := 835) (off := 802) hx hb dL_law_33 (by rw [hs_95]; omega) (by rw [hs_95]; omega) (by rw [hs_95, q_96]; rfl) (by decide) ?_
      have hP := hP.sub (ws' := [(q_1, .inr (9, [.ref x_riders_2, .ref x_road_7, .ref x_tape_11, .ref x_book_13, .ref x_reader_19, .ref x_latest_20, .ref x_log_35, .ref x_trial_38, .ref x_stages_53, .int 0, .int 0, .int 0])), (x_riders_2, .inr (5, [.int 0, .ref x_ri_teams_3, .ref x_ri_steady_4, .ref x_ri_full_5, .ref x_ri_climb_6])), (x_road_7, .inr (6, [.int 1, .ref x_ro_rises_8, .ref x_ro_winds_9, .int 0, .ref x_ro_primeMetres_10, .int 0, .int 0])), (q_57, .inr (10, [.int 0, .int 1, .int 0, .int (-1), .int 0, .int 0, .int 0, .int 20, .ref m_teamOf_58, .ref m_steady_59, .ref m_full_60, .ref m_climb_61, .ref m_rises_62, .ref m_winds_63, .ref m_primeAt_64, .ref m_tape_65, .int 0, .int 0, .int 0, .ref m_clauses_66, .ref m_letter_67, .ref m_sign_68, .ref m_bar_69, .ref m_pace_70, .ref m_rides_71, .ref m_isOut_72, .ref m_metre_73, .ref m_charge_74, .ref m_held_75, .ref m_seconds_76, .ref m_heldOften_77, .ref m_work_78, .ref m_primeSeconds_79, .int 0, .long 0, .ref m_row_80, .int 0, .ref m_groupSize_81, .ref m_place_82, .ref m_stood_83, .ref m_history_84, .ref m_groupHistory_85, .int 0, .int 0, .int 0, .int 0, .ref m_didRide_86, .ref m_toldRow_87, .ref m_passedBy_88, .ref m_total_89, .ref m_points_90, .ref m_used_91]))]) [0, 1, 6, 56] rfl
      have hD := hD.sub (ws' := [(q_1, .inr (9, [.ref x_riders_2, .ref x_road_7, .ref x_tape_11, .ref x_book_13, .ref x_reader_19, .ref x_latest_20, .ref x_log_35, .ref x_trial_38, .ref x_stages_53, .int 0, .int 0, .int 0])), (x_riders_2, .inr (5, [.int 0, .ref x_ri_teams_3, .ref x_ri_steady_4, .ref x_ri_full_5, .ref x_ri_climb_6])), (x_road_7, .inr (6, [.int 1, .ref x_ro_rises_8, .ref x_ro_winds_9, .int 0, .ref x_ro_primeMetres_10, .int 0, .int 0])), (q_57, .inr (10, [.int 0, .int 1, .int 0, .int (-1), .int 0, .int 0, .int 0, .int 20, .ref m_teamOf_58, .ref m_steady_59, .ref m_full_60, .ref m_climb_61, .ref m_rises_62, .ref m_winds_63, .ref m_primeAt_64, .ref m_tape_65, .int 0, .int 0, .int 0, .ref m_clauses_66, .ref m_letter_67, .ref m_sign_68, .ref m_bar_69, .ref m_pace_70, .ref m_rides_71, .ref m_isOut_72, .ref m_metre_73, .ref m_charge_74, .ref m_held_75, .ref m_seconds_76, .ref m_heldOften_77, .ref m_work_78, .ref m_primeSeconds_79, .int 0, .long 0, .ref m_row_80, .int 0, .ref m_groupSize_81, .ref m_place_82, .ref m_stood_83, .ref m_history_84, .ref m_groupHistory_85, .int 0, .int 0, .int 0, .int 0, .ref m_didRide_86, .ref m_toldRow_87, .ref m_passedBy_88, .ref m_total_89, .ref m_points_90, .ref m_used_91]))]) [0, 1, 6, 56] (by decide) rfl
      refine lv_aload_n hx hb dL_law_835 rfl (lv_at hl 2 rfl) ?_
      refine lv_aload_n hx hb dL_law_836 rfl (lv_at hl 3 rfl) ?_
      refine lv_iload_n hx hb dL_law_837 rfl (lv_at hl 0 rfl) ?_
      refine lv_iconst (v := 1) hx hb dL_law_838 (by decide) ?_
      refine lv_iadd hx hb dL_law_839 ?_
      refine lv_topi (fun v_395 ev_395 => ?_)
      obtain rfl : v_395 = 1 := ev_395.trans (by decide)
      refine va_sld hx hb hX hbl hbA hS (zz_in (a := (1:Int)) (by decide) (by omega) (by omega)) dL_law_840 ?_
      refine lv_aload_n hx hb dL_law_841 rfl (lv_at hl 3 rfl) ?_
      refine lv_iload_n hx hb dL_law_842 rfl (lv_at hl 0 rfl) ?_
      refine lv_iconst (v := 2) hx hb dL_law_843 (by decide) ?_
      refine lv_iadd hx hb dL_law_844 ?_
      refine lv_topi (fun v_396 ev_396 => ?_)
      obtain rfl : v_396 = 2 := ev_396.trans (by decide)
      refine va_sld hx hb hX hbl hbA hS (zz_in (a := (2:Int)) (by decide) (by omega) (by omega)) dL_law_845 ?_
      refine lv_aload_n hx hb dL_law_846 rfl (lv_at hl 3 rfl) ?_
      refine lv_iload_n hx hb dL_law_847 rfl (lv_at hl 0 rfl) ?_
      refine lv_iconst (v := 3) hx hb dL_law_848 (by decide) ?_
      refine lv_iadd hx hb dL_law_849 ?_
      refine lv_topi (fun v_397 ev_397 => ?_)
      obtain rfl : v_397 = 3 := ev_397.trans (by decide)
      refine va_sld hx hb hX hbl hbA hS (zz_in (a := (3:Int)) (by decide) (by omega) (by omega)) dL_law_850 ?_
      refine lv_i2l (v := (xs (Int32.toNatClampNeg 3)).toInt64) hx hb dL_law_851 rfl ?_
      refine lv_topl (fun y_398 ey_398 => ?_)
      refine lv_bipush (v := 32) hx hb dL_law_852 (by decide) ?_
      refine lv_lshl (v := y_398 <<< ((32 : Int32).toInt64 &&& 63)) hx hb dL_law_854 rfl ?_
      refine lv_topl (fun y_399 ey_399 => ?_)
      refine lv_aload_n hx hb dL_law_855 rfl (lv_at hl 3 rfl) ?_
      refine lv_iload_n hx hb dL_law_856 rfl (lv_at hl 0 rfl) ?_
      refine lv_iconst (v := 4) hx hb dL_law_857 (by decide) ?_
      refine lv_iadd hx hb dL_law_858 ?_
      refine lv_topi (fun v_400 ev_400 => ?_)
      obtain rfl : v_400 = 4 := ev_400.trans (by decide)
      refine va_sld hx hb hX hbl hbA hS (zz_in (a := (4:Int)) (by decide) (by omega) (by omega)) dL_law_859 ?_
      refine lv_i2l (v := (xs (Int32.toNatClampNeg 4)).toInt64) hx hb dL_law_860 rfl ?_
      refine lv_topl (fun y_401 ey_401 => ?_)
      refine lv_ldc2 (v := 4294967295) hx hb hown hw70 dL_law_861 ?_
      refine lv_land hx hb dL_law_864 ?_
      refine lv_topl (fun y_402 ey_402 => ?_)
      refine lv_lor hx hb dL_law_865 ?_
      refine lv_topl (fun y_403 ey_403 => ?_)
      have hPc := hP.sub (ws' := [(q_1, .inr (9, [.ref x_riders_2, .ref x_road_7, .ref x_tape_11, .ref x_book_13, .ref x_reader_19, .ref x_latest_20, .ref x_log_35, .ref x_trial_38, .ref x_stages_53, .int 0, .int 0, .int 0])), (x_riders_2, .inr (5, [.int 0, .ref x_ri_teams_3, .ref x_ri_steady_4, .ref x_ri_full_5, .ref x_ri_climb_6])), (x_road_7, .inr (6, [.int 1, .ref x_ro_rises_8, .ref x_ro_winds_9, .int 0, .ref x_ro_primeMetres_10, .int 0, .int 0]))]) [0, 1, 2] rfl
      have hDc := hD.sub (ws' := [(q_1, .inr (9, [.ref x_riders_2, .ref x_road_7, .ref x_tape_11, .ref x_book_13, .ref x_reader_19, .ref x_latest_20, .ref x_log_35, .ref x_trial_38, .ref x_stages_53, .int 0, .int 0, .int 0])), (x_riders_2, .inr (5, [.int 0, .ref x_ri_teams_3, .ref x_ri_steady_4, .ref x_ri_full_5, .ref x_ri_climb_6])), (x_road_7, .inr (6, [.int 1, .ref x_ro_rises_8, .ref x_ro_winds_9, .int 0, .ref x_ro_primeMetres_10, .int 0, .int 0]))]) [0, 1, 2] (by decide) rfl
      have hFc := va_free (wc := [(q_1, .inr (9, [.ref x_riders_2, .ref x_road_7, .ref x_tape_11, .ref x_book_13, .ref x_reader_19, .ref x_latest_20, .ref x_log_35, .ref x_trial_38, .ref x_stages_53, .int 0, .int 0, .int 0])), (x_riders_2, .inr (5, [.int 0, .ref x_ri_teams_3, .ref x_ri_steady_4, .ref x_ri_full_5, .ref x_ri_climb_6])), (x_road_7, .inr (6, [.int 1, .ref x_ro_rises_8, .ref x_ro_winds_9, .int 0, .ref x_ro_primeMetres_10, .int 0, .int 0]))]) hD hS hA [0, 1, 2] rfl
      refine va_calli (va_runV (As := [.int (xs (Int32.toNatClampNeg 1)), .int (xs (Int32.toNatClampNeg 2)), .long y_403]) (rest := []) ⟨hx, hb, hml, hown, hts⟩ (c_X9_best l dC dI cI cZ (H).size q_1 x_riders_2 x_road_7 x_tape_11 x_book_13 x_reader_19 x_latest_20 x_log_35 x_trial_38 x_stages_53 x_ri_teams_3 x_ri_steady_4 x_ri_full_5 x_ri_climb_6 x_ro_rises_8 x_ro_winds_9 x_ro_primeMetres_10 (xs (Int32.toNatClampNeg 1)) ((xs (Int32.toNatClampNeg 1)).toInt) rfl (xs (Int32.toNatClampNeg 2)) ((xs (Int32.toNatClampNeg 2)).toInt) rfl y_403) ⟨callB_of 3 hts (zz_goodL zw_722) rfl rfl rfl hw2 hw137 (by decide +kernel) ⟨Nat.le_of_ble_eq_true rfl, Nat.le_of_ble_eq_true rfl⟩, hw138, hw139⟩ ⟨fun a U g mk q => by obtain ⟨q0, q1, qP, qK, qD⟩ := q; exact ⟨q0, q1, qP, va_K.moved (u := U) (U := U.calling g mk a) (Vm.Alike.refl U.vm) qK, qD⟩, va_recv hK hPc (ci := 9) (q0 := 0) rfl rfl, fun U hU hW => ⟨rfl, by rw [hU], by rw [hU]; exact hPc, va_K.moved hW.alike hK, hDc.weaken (fun _ _ _ _ => trivial)⟩⟩ rfl rfl hl.1 rfl (lv_room (Nat.le_of_ble_eq_true rfl)) dL_law_866 ⟨Nat.le_of_ble_eq_true rfl, Nat.le_of_ble_eq_true rfl⟩) hS (fun q _ h => hFc q h) hFc (fun r_404 u t H1 locs ht hvm hpost hB hz1 hk1 hS => ?_)
      subst hpost
      obtain ⟨hf_405, hP1, hK1, hD1⟩ := hB
      rw [ht] at hP1
      obtain ⟨hP, hD⟩ := va_join (wr := [(q_57, .inr (10, [.int 0, .int 1, .int 0, .int (-1), .int 0, .int 0, .int 0, .int 20, .ref m_teamOf_58, .ref m_steady_59, .ref m_full_60, .ref m_climb_61, .ref m_rises_62, .ref m_winds_63, .ref m_primeAt_64, .ref m_tape_65, .int 0, .int 0, .int 0, .ref m_clauses_66, .ref m_letter_67, .ref m_sign_68, .ref m_bar_69, .ref m_pace_70, .ref m_rides_71, .ref m_isOut_72, .ref m_metre_73, .ref m_charge_74, .ref m_held_75, .ref m_seconds_76, .ref m_heldOften_77, .ref m_work_78, .ref m_primeSeconds_79, .int 0, .long 0, .ref m_row_80, .int 0, .ref m_groupSize_81, .ref m_place_82, .ref m_stood_83, .ref m_history_84, .ref m_groupHistory_85, .int 0, .int 0, .int 0, .int 0, .ref m_didRide_86, .ref m_toldRow_87, .ref m_passedBy_88, .ref m_total_89, .ref m_points_90, .ref m_used_91]))]) (w1 := []) hP hD [0, 1, 2] [3] rfl rfl (by decide) (by decide) hk1 hFc hP1 hD1
      generalize H1 = H at hP hS ⊢
      have hP : va_P (dC, dI) vwCl [(q_57, .inr (10, [.int 0, .int 1, .int 0, .int (-1), .int 0, .int 0, .int 0, .int 20, .ref m_teamOf_58, .ref m_steady_59, .ref m_full_60, .ref m_climb_61, .ref m_rises_62, .ref m_winds_63, .ref m_primeAt_64, .ref m_tape_65, .int 0, .int 0, .int 0, .ref m_clauses_66, .ref m_letter_67, .ref m_sign_68, .ref m_bar_69, .ref m_pace_70, .ref m_rides_71, .ref m_isOut_72, .ref m_metre_73, .ref m_charge_74, .ref m_held_75, .ref m_seconds_76, .ref m_heldOften_77, .ref m_work_78, .ref m_primeSeconds_79, .int 0, .long 0, .ref m_row_80, .int 0, .ref m_groupSize_81, .ref m_place_82, .ref m_stood_83, .ref m_history_84, .ref m_groupHistory_85, .int 0, .int 0, .int 0, .int 0, .ref m_didRide_86, .ref m_toldRow_87, .ref m_passedBy_88, .ref m_total_89, .ref m_points_90, .ref m_used_91]))] H := hP
      have hD : va_D (fun q : Nat => s.heap.size ≤ q) [(q_57, .inr (10, [.int 0, .int 1, .int 0, .int (-1), .int 0, .int 0, .int 0, .int 20, .ref m_teamOf_58, .ref m_steady_59, .ref m_full_60, .ref m_climb_61, .ref m_rises_62, .ref m_winds_63, .ref m_primeAt_64, .ref m_tape_65, .int 0, .int 0, .int 0, .ref m_clauses_66, .ref m_letter_67, .ref m_sign_68, .ref m_bar_69, .ref m_pace_70, .ref m_rides_71, .ref m_isOut_72, .ref m_metre_73, .ref m_charge_74, .ref m_held_75, .ref m_seconds_76, .ref m_heldOften_77, .ref m_work_78, .ref m_primeSeconds_79, .int 0, .long 0, .ref m_row_80, .int 0, .ref m_groupSize_81, .ref m_place_82, .ref m_stood_83, .ref m_history_84, .ref m_groupHistory_85, .int 0, .int 0, .int 0, .int 0, .ref m_didRide_86, .ref m_toldRow_87, .ref m_passedBy_88, .ref m_total_89, .ref m_points_90, .ref m_used_91]))] := hD
      have hf_405 : r_404.toInt = -1 := hf_405
      obtain rfl : r_404 = (-1) := Int32.toInt_inj.mp (hf_405.trans (by decide))
      refine lv_aload_n hx hb dL_law_869 rfl (lv_at hl 1 rfl) ?_
      refine lv_aload_n hx hb dL_law_870 rfl (lv_at hl 3 rfl) ?_
      refine lv_iload_n hx hb dL_law_871 rfl (lv_at hl 0 rfl) ?_
      refine lv_iconst (v := 1) hx hb dL_law_872 (by decide) ?_
      refine lv_iadd hx hb dL_law_873 ?_
      refine lv_topi (fun v_406 ev_406 => ?_)
      obtain rfl : v_406 = 1 := ev_406.trans (by decide)
      refine va_sld hx hb hX hbl hbA hS (zz_in (a := (1:Int)) (by decide) (by omega) (by omega)) dL_law_874 ?_
      refine lv_aload_n hx hb dL_law_875 rfl (lv_at hl 3 rfl) ?_
      refine lv_iload_n hx hb dL_law_876 rfl (lv_at hl 0 rfl) ?_
      refine lv_iconst (v := 2) hx hb dL_law_877 (by decide) ?_
      refine lv_iadd hx hb dL_law_878 ?_
      refine lv_topi (fun v_407 ev_407 => ?_)
      obtain rfl : v_407 = 2 := ev_407.trans (by decide)
      refine va_sld hx hb hX hbl hbA hS (zz_in (a := (2:Int)) (by decide) (by omega) (by omega)) dL_law_879 ?_
      refine lv_aload_n hx hb dL_law_880 rfl (lv_at hl 3 rfl) ?_
      refine lv_iload_n hx hb dL_law_881 rfl (lv_at hl 0 rfl) ?_
      refine lv_iconst (v := 3) hx hb dL_law_882 (by decide) ?_
      refine lv_iadd hx hb dL_law_883 ?_
      refine lv_topi (fun v_408 ev_408 => ?_)
      obtain rfl : v_408 = 3 := ev_408.trans (by decide)
      refine va_sld hx hb hX hbl hbA hS (zz_in (a := (3:Int)) (by decide) (by omega) (by omega)) dL_law_884 ?_
      refine lv_i2l (v := (xs (Int32.toNatClampNeg 3)).toInt64) hx hb dL_law_885 rfl ?_
      refine lv_topl (fun y_409 ey_409 => ?_)
      refine lv_bipush (v := 32) hx hb dL_law_886 (by decide) ?_
      refine lv_lshl (v := y_409 <<< ((32 : Int32).toInt64 &&& 63)) hx hb dL_law_888 rfl ?_
      refine lv_topl (fun y_410 ey_410 => ?_)
      refine lv_aload_n hx hb dL_law_889 rfl (lv_at hl 3 rfl) ?_
      refine lv_iload_n hx hb dL_law_890 rfl (lv_at hl 0 rfl) ?_
      refine lv_iconst (v := 4) hx hb dL_law_891 (by decide) ?_
      refine lv_iadd hx hb dL_law_892 ?_
      refine lv_topi (fun v_411 ev_411 => ?_)
      obtain rfl : v_411 = 4 := ev_411.trans (by decide)
      refine va_sld hx hb hX hbl hbA hS (zz_in (a := (4:Int)) (by decide) (by omega) (by omega)) dL_law_893 ?_
      refine lv_i2l (v := (xs (Int32.toNatClampNeg 4)).toInt64) hx hb dL_law_894 rfl ?_
      refine lv_topl (fun y_412 ey_412 => ?_)
      refine lv_ldc2 (v := 4294967295) hx hb hown hw70 dL_law_895 ?_
      refine lv_land hx hb dL_law_898 ?_
      refine lv_topl (fun y_413 ey_413 => ?_)
      refine lv_lor hx hb dL_law_899 ?_
      refine lv_topl (fun y_414 ey_414 => ?_)
      have hPc := hP.sub (ws' := [(q_57, .inr (10, [.int 0, .int 1, .int 0, .int (-1), .int 0, .int 0, .int 0, .int 20, .ref m_teamOf_58, .ref m_steady_59, .ref m_full_60, .ref m_climb_61, .ref m_rises_62, .ref m_winds_63, .ref m_primeAt_64, .ref m_tape_65, .int 0, .int 0, .int 0, .ref m_clauses_66, .ref m_letter_67, .ref m_sign_68, .ref m_bar_69, .ref m_pace_70, .ref m_rides_71, .ref m_isOut_72, .ref m_metre_73, .ref m_charge_74, .ref m_held_75, .ref m_seconds_76, .ref m_heldOften_77, .ref m_work_78, .ref m_primeSeconds_79, .int 0, .long 0, .ref m_row_80, .int 0, .ref m_groupSize_81, .ref m_place_82, .ref m_stood_83, .ref m_history_84, .ref m_groupHistory_85, .int 0, .int 0, .int 0, .int 0, .ref m_didRide_86, .ref m_toldRow_87, .ref m_passedBy_88, .ref m_total_89, .ref m_points_90, .ref m_used_91]))]) [0] rfl
      have hDc := hD.sub (ws' := [(q_57, .inr (10, [.int 0, .int 1, .int 0, .int (-1), .int 0, .int 0, .int 0, .int 20, .ref m_teamOf_58, .ref m_steady_59, .ref m_full_60, .ref m_climb_61, .ref m_rises_62, .ref m_winds_63, .ref m_primeAt_64, .ref m_tape_65, .int 0, .int 0, .int 0, .ref m_clauses_66, .ref m_letter_67, .ref m_sign_68, .ref m_bar_69, .ref m_pace_70, .ref m_rides_71, .ref m_isOut_72, .ref m_metre_73, .ref m_charge_74, .ref m_held_75, .ref m_seconds_76, .ref m_heldOften_77, .ref m_work_78, .ref m_primeSeconds_79, .int 0, .long 0, .ref m_row_80, .int 0, .ref m_groupSize_81, .ref m_place_82, .ref m_stood_83, .ref m_history_84, .ref m_groupHistory_85, .int 0, .int 0, .int 0, .int 0, .ref m_didRide_86, .ref m_toldRow_87, .ref m_passedBy_88, .ref m_total_89, .ref m_points_90, .ref m_used_91]))]) [0] (by decide) rfl
      have hFc := va_free (wc := [(q_57, .inr (10, [.int 0, .int 1, .int 0, .int (-1), .int 0, .int 0, .int 0, .int 20, .ref m_teamOf_58, .ref m_steady_59, .ref m_full_60, .ref m_climb_61, .ref m_rises_62, .ref m_winds_63, .ref m_primeAt_64, .ref m_tape_65, .int 0, .int 0, .int 0, .ref m_clauses_66, .ref m_letter_67, .ref m_sign_68, .ref m_bar_69, .ref m_pace_70, .ref m_rides_71, .ref m_isOut_72, .ref m_metre_73, .ref m_charge_74, .ref m_held_75, .ref m_seconds_76, .ref m_heldOften_77, .ref m_work_78, .ref m_primeSeconds_79, .int 0, .long 0, .ref m_row_80, .int 0, .ref m_groupSize_81, .ref m_place_82, .ref m_stood_83, .ref m_history_84, .ref m_groupHistory_85, .int 0, .int 0, .int 0, .int 0, .ref m_didRide_86, .ref m_toldRow_87, .ref m_passedBy_88, .ref m_total_89, .ref m_points_90, .ref m_used_91]))]) hD hS hA [0] rfl
      refine va_calli (va_runV (As := [.int (xs (Int32.toNatClampNeg 1)), .int (xs (Int32.toNatClampNeg 2)), .long y_414]) (rest := [.int (-1)]) ⟨hx, hb, hml, hown, hts⟩ (c_X10_best l dC dI cI cZ (H).size q_57 m_teamOf_58 m_steady_59 m_full_60 m_climb_61 m_rises_62 m_winds_63 m_primeAt_64 m_tape_65 m_clauses_66 m_letter_67 m_sign_68 m_bar_69 m_pace_70 m_rides_71 m_isOut_72 m_metre_73 m_charge_74 m_held_75 m_seconds_76 m_heldOften_77 m_work_78 m_primeSeconds_79 m_row_80 m_groupSize_81 m_place_82 m_stood_83 m_history_84 m_groupHistory_85 m_didRide_86 m_toldRow_87 m_passedBy_88 m_total_89 m_points_90 m_used_91 (xs (Int32.toNatClampNeg 1)) ((xs (Int32.toNatClampNeg 1)).toInt) rfl (xs (Int32.toNatClampNeg 2)) ((xs (Int32.toNatClampNeg 2)).toInt) rfl y_414) ⟨callB_of 3 hts (zz_goodL zw_1088) rfl rfl rfl hw7 hw140 (by decide +kernel) ⟨Nat.le_of_ble_eq_true rfl, Nat.le_of_ble_eq_true rfl⟩, hw141, hw142⟩ ⟨fun a U g mk q => by obtain ⟨q0, q1, qP, qK, qD⟩ := q; exact ⟨q0, q1, qP, va_K.moved (u := U) (U := U.calling g mk a) (Vm.Alike.refl U.vm) qK, qD⟩, va_recv hK hPc (ci := 10) (q0 := 0) rfl rfl, fun U hU hW => ⟨rfl, by rw [hU], by rw [hU]; exact hPc, va_K.moved hW.alike hK, hDc.weaken (fun _ _ _ _ => trivial)⟩⟩ rfl rfl hl.1 rfl (lv_room (Nat.le_of_ble_eq_true rfl)) dL_law_900 ⟨Nat.le_of_ble_eq_true rfl, Nat.le_of_ble_eq_true rfl⟩) hS (fun q _ h => hFc q h) hFc (fun r_415 u t H1 locs ht hvm hpost hB hz1 hk1 hS => ?_)
      subst hpost
      obtain ⟨hf_416, hP1, hK1, hD1⟩ := hB
      rw [ht] at hP1
      obtain ⟨hP, hD⟩ := va_join (wr := []) (w1 := []) hP hD [0] [] rfl rfl (by decide) (by decide) hk1 hFc hP1 hD1
      generalize H1 = H at hP hS ⊢
      have hP : va_P (dC, dI) vwCl [] H := hP
      have hD : va_D (fun q : Nat => s.heap.size ≤ q) [] := hD
      have hf_416 : r_415.toInt = -1 := hf_416
      obtain rfl : r_415 = (-1) := Int32.toInt_inj.mp (hf_416.trans (by decide))
      refine lv_icmp_eq (tgt := 931) hx hb dL_law_903 (by decide) (fun c_417 => ?_) (fun c_417 => ?_)
      ·
        refine lv_iinc (v := 7) (lv' := [(3, .int 7), (2, .ref q_57), (1, .ref q_1), (0, .ref b)]) hx hb dL_law_931 hl (k := 0) rfl (by decide) (by decide) rfl (fun ls hl => ?_)
        refine lv_goto (tgt := 18) hx hb dL_law_934 (by decide) ?_
        refine lv_iload_n hx hb dL_law_18 rfl (lv_at hl 0 rfl) ?_
        refine lv_aload_n hx hb dL_law_19 rfl (lv_at hl 3 rfl) ?_
        refine va_slen hx hb hX hbl hbA hS dL_law_20 ?_
        refine lv_bipush (v := 7) hx hb dL_law_21 (by decide) ?_
        refine lv_isub hx hb dL_law_23 ?_
        refine lv_topi (fun v_418 ev_418 => ?_)
        have hv_418 : v_418.toInt = ((L : Int) - (7:Int)) := by rw [ev_418]; exact zz_subI (nI_toInt (by omega)) (by decide) (by omega) (by omega)
        refine lv_icmp_gt (tgt := 937) hx hb dL_law_24 (by decide) (fun c_419 => ?_) (fun c_419 => ?_)
        ·
          have c_419 : ((L : Int) - (7:Int)) < (7:Int) := zz_lt hv_418 (by decide) c_419
          refine lv_iconst (v := 1) hx hb dL_law_937 (by decide) ?_
          refine va_forget (fun q hq => hS.2.2 q hq) ?_
          refine W.widen (k := 91) (n := 20364) (Nat.le_of_ble_eq_true rfl) (Nat.le_of_ble_eq_true rfl) ?_
          exact lw_ret hx hb hr hlocks dL_law_938
        ·
          have c_419 : ¬ (((L : Int) - (7:Int)) < (7:Int)) := zz_ltn hv_418 (by decide) c_419
          exact absurd c_419 (by omega)
      ·
        exact absurd c_417 (by decide)
    ·
      refine lv_tableIn (tgt := 908) (off := 875) hx hb dL_law_33 (by rw [hs_95]; omega) (by rw [hs_95]; omega) (by rw [hs_95, q_96]; rfl) (by decide) ?_
      have hP := hP.sub (ws' := [(q_1, .inr (9, [.ref x_riders_2, .ref x_road_7, .ref x_tape_11, .ref x_book_13, .ref x_reader_19, .ref x_latest_20, .ref x_log_35, .ref x_trial_38, .ref x_stages_53, .int 0, .int 0, .int 0])), (x_riders_2, .inr (5, [.int 0, .ref x_ri_teams_3, .ref x_ri_steady_4, .ref x_ri_full_5, .ref x_ri_climb_6])), (x_road_7, .inr (6, [.int 1, .ref x_ro_rises_8, .ref x_ro_winds_9, .int 0, .ref x_ro_primeMetres_10, .int 0, .int 0])), (x_tape_11, .inr (8, [.int 0, .ref x_ta_bytes_12])), (x_stages_53, .inr (7, [.int 0, .int 20, .ref x_sg_totals_54, .ref x_sg_points_55, .ref x_sg_out_56])), (q_57, .inr (10, [.int 0, .int 1, .int 0, .int (-1), .int 0, .int 0, .int 0, .int 20, .ref m_teamOf_58, .ref m_steady_59, .ref m_full_60, .ref m_climb_61, .ref m_rises_62, .ref m_winds_63, .ref m_primeAt_64, .ref m_tape_65, .int 0, .int 0, .int 0, .ref m_clauses_66, .ref m_letter_67, .ref m_sign_68, .ref m_bar_69, .ref m_pace_70, .ref m_rides_71, .ref m_isOut_72, .ref m_metre_73, .ref m_charge_74, .ref m_held_75, .ref m_seconds_76, .ref m_heldOften_77, .ref m_work_78, .ref m_primeSeconds_79, .int 0, .long 0, .ref m_row_80, .int 0, .ref m_groupSize_81, .ref m_place_82, .ref m_stood_83, .ref m_history_84, .ref m_groupHistory_85, .int 0, .int 0, .int 0, .int 0, .ref m_didRide_86, .ref m_toldRow_87, .ref m_passedBy_88, .ref m_total_89, .ref m_points_90, .ref m_used_91]))]) [0, 1, 6, 10, 52, 56] rfl
      have hD := hD.sub (ws' := [(q_1, .inr (9, [.ref x_riders_2, .ref x_road_7, .ref x_tape_11, .ref x_book_13, .ref x_reader_19, .ref x_latest_20, .ref x_log_35, .ref x_trial_38, .ref x_stages_53, .int 0, .int 0, .int 0])), (x_riders_2, .inr (5, [.int 0, .ref x_ri_teams_3, .ref x_ri_steady_4, .ref x_ri_full_5, .ref x_ri_climb_6])), (x_road_7, .inr (6, [.int 1, .ref x_ro_rises_8, .ref x_ro_winds_9, .int 0, .ref x_ro_primeMetres_10, .int 0, .int 0])), (x_tape_11, .inr (8, [.int 0, .ref x_ta_bytes_12])), (x_stages_53, .inr (7, [.int 0, .int 20, .ref x_sg_totals_54, .ref x_sg_points_55, .ref x_sg_out_56])), (q_57, .inr (10, [.int 0, .int 1, .int 0, .int (-1), .int 0, .int 0, .int 0, .int 20, .ref m_teamOf_58, .ref m_steady_59, .ref m_full_60, .ref m_climb_61, .ref m_rises_62, .ref m_winds_63, .ref m_primeAt_64, .ref m_tape_65, .int 0, .int 0, .int 0, .ref m_clauses_66, .ref m_letter_67, .ref m_sign_68, .ref m_bar_69, .ref m_pace_70, .ref m_rides_71, .ref m_isOut_72, .ref m_metre_73, .ref m_charge_74, .ref m_held_75, .ref m_seconds_76, .ref m_heldOften_77, .ref m_work_78, .ref m_primeSeconds_79, .int 0, .long 0, .ref m_row_80, .int 0, .ref m_groupSize_81, .ref m_place_82, .ref m_stood_83, .ref m_history_84, .ref m_groupHistory_85, .int 0, .int 0, .int 0, .int 0, .ref m_didRide_86, .ref m_toldRow_87, .ref m_passedBy_88, .ref m_total_89, .ref m_points_90, .ref m_used_91]))]) [0, 1, 6, 10, 52, 56] (by decide) rfl
      refine lv_aload_n hx hb dL_law_908 rfl (lv_at hl 2 rfl) ?_
      refine lv_aload_n hx hb dL_law_909 rfl (lv_at hl 3 rfl) ?_
      refine lv_iload_n hx hb dL_law_910 rfl (lv_at hl 0 rfl) ?_
      refine lv_iconst (v := 1) hx hb dL_law_911 (by decide) ?_
      refine lv_iadd hx hb dL_law_912 ?_
      refine lv_topi (fun v_420 ev_420 => ?_)
      obtain rfl : v_420 = 1 := ev_420.trans (by decide)
      refine va_sld hx hb hX hbl hbA hS (zz_in (a := (1:Int)) (by decide) (by omega) (by omega)) dL_law_913 ?_
      have hPc := hP.sub (ws' := [(q_1, .inr (9, [.ref x_riders_2, .ref x_road_7, .ref x_tape_11, .ref x_book_13, .ref x_reader_19, .ref x_latest_20, .ref x_log_35, .ref x_trial_38, .ref x_stages_53, .int 0, .int 0, .int 0])), (x_riders_2, .inr (5, [.int 0, .ref x_ri_teams_3, .ref x_ri_steady_4, .ref x_ri_full_5, .ref x_ri_climb_6])), (x_road_7, .inr (6, [.int 1, .ref x_ro_rises_8, .ref x_ro_winds_9, .int 0, .ref x_ro_primeMetres_10, .int 0, .int 0])), (x_tape_11, .inr (8, [.int 0, .ref x_ta_bytes_12])), (x_stages_53, .inr (7, [.int 0, .int 20, .ref x_sg_totals_54, .ref x_sg_points_55, .ref x_sg_out_56]))]) [0, 1, 2, 3, 4] rfl
      have hDc := hD.sub (ws' := [(q_1, .inr (9, [.ref x_riders_2, .ref x_road_7, .ref x_tape_11, .ref x_book_13, .ref x_reader_19, .ref x_latest_20, .ref x_log_35, .ref x_trial_38, .ref x_stages_53, .int 0, .int 0, .int 0])), (x_riders_2, .inr (5, [.int 0, .ref x_ri_teams_3, .ref x_ri_steady_4, .ref x_ri_full_5, .ref x_ri_climb_6])), (x_road_7, .inr (6, [.int 1, .ref x_ro_rises_8, .ref x_ro_winds_9, .int 0, .ref x_ro_primeMetres_10, .int 0, .int 0])), (x_tape_11, .inr (8, [.int 0, .ref x_ta_bytes_12])), (x_stages_53, .inr (7, [.int 0, .int 20, .ref x_sg_totals_54, .ref x_sg_points_55, .ref x_sg_out_56]))]) [0, 1, 2, 3, 4] (by decide) rfl
      have hFc := va_free (wc := [(q_1, .inr (9, [.ref x_riders_2, .ref x_road_7, .ref x_tape_11, .ref x_book_13, .ref x_reader_19, .ref x_latest_20, .ref x_log_35, .ref x_trial_38, .ref x_stages_53, .int 0, .int 0, .int 0])), (x_riders_2, .inr (5, [.int 0, .ref x_ri_teams_3, .ref x_ri_steady_4, .ref x_ri_full_5, .ref x_ri_climb_6])), (x_road_7, .inr (6, [.int 1, .ref x_ro_rises_8, .ref x_ro_winds_9, .int 0, .ref x_ro_primeMetres_10, .int 0, .int 0])), (x_tape_11, .inr (8, [.int 0, .ref x_ta_bytes_12])), (x_stages_53, .inr (7, [.int 0, .int 20, .ref x_sg_totals_54, .ref x_sg_points_55, .ref x_sg_out_56]))]) hD hS hA [0, 1, 2, 3, 4] rfl
      refine va_calli (va_runV (As := [.int (xs (Int32.toNatClampNeg 1))]) (rest := []) ⟨hx, hb, hml, hown, hts⟩ (c_X9_count l dC dI cI cZ (H).size q_1 x_riders_2 x_road_7 x_tape_11 x_book_13 x_reader_19 x_latest_20 x_log_35 x_trial_38 x_stages_53 x_ri_teams_3 x_ri_steady_4 x_ri_full_5 x_ri_climb_6 x_ro_rises_8 x_ro_winds_9 x_ro_primeMetres_10 x_ta_bytes_12 x_sg_totals_54 x_sg_points_55 x_sg_out_56 (xs (Int32.toNatClampNeg 1)) ((xs (Int32.toNatClampNeg 1)).toInt) rfl) ⟨callB_of 1 hts (zz_goodL zw_726) rfl rfl rfl hw2 hw143 (by decide +kernel) ⟨Nat.le_of_ble_eq_true rfl, Nat.le_of_ble_eq_true rfl⟩, hw144, hw145⟩ ⟨fun a U g mk q => by obtain ⟨q0, q1, qP, qK, qD⟩ := q; exact ⟨q0, q1, qP, va_K.moved (u := U) (U := U.calling g mk a) (Vm.Alike.refl U.vm) qK, qD⟩, va_recv hK hPc (ci := 9) (q0 := 0) rfl rfl, fun U hU hW => ⟨rfl, by rw [hU], by rw [hU]; exact hPc, va_K.moved hW.alike hK, hDc.weaken (fun _ _ _ _ => trivial)⟩⟩ rfl rfl hl.1 rfl (lv_room (Nat.le_of_ble_eq_true rfl)) dL_law_914 ⟨Nat.le_of_ble_eq_true rfl, Nat.le_of_ble_eq_true rfl⟩) hS (fun q _ h => hFc q h) hFc (fun r_421 u t H1 locs ht hvm hpost hB hz1 hk1 hS => ?_)
      subst hpost
      obtain ⟨hf_422, hP1, hK1, hD1⟩ := hB
      rw [ht] at hP1
      obtain ⟨hP, hD⟩ := va_join (wr := [(q_57, .inr (10, [.int 0, .int 1, .int 0, .int (-1), .int 0, .int 0, .int 0, .int 20, .ref m_teamOf_58, .ref m_steady_59, .ref m_full_60, .ref m_climb_61, .ref m_rises_62, .ref m_winds_63, .ref m_primeAt_64, .ref m_tape_65, .int 0, .int 0, .int 0, .ref m_clauses_66, .ref m_letter_67, .ref m_sign_68, .ref m_bar_69, .ref m_pace_70, .ref m_rides_71, .ref m_isOut_72, .ref m_metre_73, .ref m_charge_74, .ref m_held_75, .ref m_seconds_76, .ref m_heldOften_77, .ref m_work_78, .ref m_primeSeconds_79, .int 0, .long 0, .ref m_row_80, .int 0, .ref m_groupSize_81, .ref m_place_82, .ref m_stood_83, .ref m_history_84, .ref m_groupHistory_85, .int 0, .int 0, .int 0, .int 0, .ref m_didRide_86, .ref m_toldRow_87, .ref m_passedBy_88, .ref m_total_89, .ref m_points_90, .ref m_used_91]))]) (w1 := []) hP hD [0, 1, 2, 3, 4] [5] rfl rfl (by decide) (by decide) hk1 hFc hP1 hD1
      generalize H1 = H at hP hS ⊢
      have hP : va_P (dC, dI) vwCl [(q_57, .inr (10, [.int 0, .int 1, .int 0, .int (-1), .int 0, .int 0, .int 0, .int 20, .ref m_teamOf_58, .ref m_steady_59, .ref m_full_60, .ref m_climb_61, .ref m_rises_62, .ref m_winds_63, .ref m_primeAt_64, .ref m_tape_65, .int 0, .int 0, .int 0, .ref m_clauses_66, .ref m_letter_67, .ref m_sign_68, .ref m_bar_69, .ref m_pace_70, .ref m_rides_71, .ref m_isOut_72, .ref m_metre_73, .ref m_charge_74, .ref m_held_75, .ref m_seconds_76, .ref m_heldOften_77, .ref m_work_78, .ref m_primeSeconds_79, .int 0, .long 0, .ref m_row_80, .int 0, .ref m_groupSize_81, .ref m_place_82, .ref m_stood_83, .ref m_history_84, .ref m_groupHistory_85, .int 0, .int 0, .int 0, .int 0, .ref m_didRide_86, .ref m_toldRow_87, .ref m_passedBy_88, .ref m_total_89, .ref m_points_90, .ref m_used_91]))] H := hP
      have hD : va_D (fun q : Nat => s.heap.size ≤ q) [(q_57, .inr (10, [.int 0, .int 1, .int 0, .int (-1), .int 0, .int 0, .int 0, .int 20, .ref m_teamOf_58, .ref m_steady_59, .ref m_full_60, .ref m_climb_61, .ref m_rises_62, .ref m_winds_63, .ref m_primeAt_64, .ref m_tape_65, .int 0, .int 0, .int 0, .ref m_clauses_66, .ref m_letter_67, .ref m_sign_68, .ref m_bar_69, .ref m_pace_70, .ref m_rides_71, .ref m_isOut_72, .ref m_metre_73, .ref m_charge_74, .ref m_held_75, .ref m_seconds_76, .ref m_heldOften_77, .ref m_work_78, .ref m_primeSeconds_79, .int 0, .long 0, .ref m_row_80, .int 0, .ref m_groupSize_81, .ref m_place_82, .ref m_stood_83, .ref m_history_84, .ref m_groupHistory_85, .int 0, .int 0, .int 0, .int 0, .ref m_didRide_86, .ref m_toldRow_87, .ref m_passedBy_88, .ref m_total_89, .ref m_points_90, .ref m_used_91]))] := hD
      have hf_422 : ((((xs (Int32.toNatClampNeg 1)).toInt) < 0 ∨ 6 < ((xs (Int32.toNatClampNeg 1)).toInt)) ∧ r_421.toInt = -1) ∨ (((xs (Int32.toNatClampNeg 1)).toInt) = 1 ∧ r_421.toInt = 1) ∨ (0 ≤ ((xs (Int32.toNatClampNeg 1)).toInt) ∧ ((xs (Int32.toNatClampNeg 1)).toInt) ≤ 6 ∧ ((xs (Int32.toNatClampNeg 1)).toInt) ≠ 1 ∧ r_421.toInt = 0) := hf_422
      refine lv_aload_n hx hb dL_law_917 rfl (lv_at hl 1 rfl) ?_
      refine lv_aload_n hx hb dL_law_918 rfl (lv_at hl 3 rfl) ?_
      refine lv_iload_n hx hb dL_law_919 rfl (lv_at hl 0 rfl) ?_
      refine lv_iconst (v := 1) hx hb dL_law_920 (by decide) ?_
      refine lv_iadd hx hb dL_law_921 ?_
      refine lv_topi (fun v_423 ev_423 => ?_)
      obtain rfl : v_423 = 1 := ev_423.trans (by decide)
      refine va_sld hx hb hX hbl hbA hS (zz_in (a := (1:Int)) (by decide) (by omega) (by omega)) dL_law_922 ?_
      have hPc := hP.sub (ws' := [(q_57, .inr (10, [.int 0, .int 1, .int 0, .int (-1), .int 0, .int 0, .int 0, .int 20, .ref m_teamOf_58, .ref m_steady_59, .ref m_full_60, .ref m_climb_61, .ref m_rises_62, .ref m_winds_63, .ref m_primeAt_64, .ref m_tape_65, .int 0, .int 0, .int 0, .ref m_clauses_66, .ref m_letter_67, .ref m_sign_68, .ref m_bar_69, .ref m_pace_70, .ref m_rides_71, .ref m_isOut_72, .ref m_metre_73, .ref m_charge_74, .ref m_held_75, .ref m_seconds_76, .ref m_heldOften_77, .ref m_work_78, .ref m_primeSeconds_79, .int 0, .long 0, .ref m_row_80, .int 0, .ref m_groupSize_81, .ref m_place_82, .ref m_stood_83, .ref m_history_84, .ref m_groupHistory_85, .int 0, .int 0, .int 0, .int 0, .ref m_didRide_86, .ref m_toldRow_87, .ref m_passedBy_88, .ref m_total_89, .ref m_points_90, .ref m_used_91]))]) [0] rfl
      have hDc := hD.sub (ws' := [(q_57, .inr (10, [.int 0, .int 1, .int 0, .int (-1), .int 0, .int 0, .int 0, .int 20, .ref m_teamOf_58, .ref m_steady_59, .ref m_full_60, .ref m_climb_61, .ref m_rises_62, .ref m_winds_63, .ref m_primeAt_64, .ref m_tape_65, .int 0, .int 0, .int 0, .ref m_clauses_66, .ref m_letter_67, .ref m_sign_68, .ref m_bar_69, .ref m_pace_70, .ref m_rides_71, .ref m_isOut_72, .ref m_metre_73, .ref m_charge_74, .ref m_held_75, .ref m_seconds_76, .ref m_heldOften_77, .ref m_work_78, .ref m_primeSeconds_79, .int 0, .long 0, .ref m_row_80, .int 0, .ref m_groupSize_81, .ref m_place_82, .ref m_stood_83, .ref m_history_84, .ref m_groupHistory_85, .int 0, .int 0, .int 0, .int 0, .ref m_didRide_86, .ref m_toldRow_87, .ref m_passedBy_88, .ref m_total_89, .ref m_points_90, .ref m_used_91]))]) [0] (by decide) rfl
      have hFc := va_free (wc := [(q_57, .inr (10, [.int 0, .int 1, .int 0, .int (-1), .int 0, .int 0, .int 0, .int 20, .ref m_teamOf_58, .ref m_steady_59, .ref m_full_60, .ref m_climb_61, .ref m_rises_62, .ref m_winds_63, .ref m_primeAt_64, .ref m_tape_65, .int 0, .int 0, .int 0, .ref m_clauses_66, .ref m_letter_67, .ref m_sign_68, .ref m_bar_69, .ref m_pace_70, .ref m_rides_71, .ref m_isOut_72, .ref m_metre_73, .ref m_charge_74, .ref m_held_75, .ref m_seconds_76, .ref m_heldOften_77, .ref m_work_78, .ref m_primeSeconds_79, .int 0, .long 0, .ref m_row_80, .int 0, .ref m_groupSize_81, .ref m_place_82, .ref m_stood_83, .ref m_history_84, .ref m_groupHistory_85, .int 0, .int 0, .int 0, .int 0, .ref m_didRide_86, .ref m_toldRow_87, .ref m_passedBy_88, .ref m_total_89, .ref m_points_90, .ref m_used_91]))]) hD hS hA [0] rfl
      refine va_calli (va_runV (As := [.int (xs (Int32.toNatClampNeg 1))]) (rest := [.int r_421]) ⟨hx, hb, hml, hown, hts⟩ (c_X10_count l dC dI cI cZ (H).size q_57 m_teamOf_58 m_steady_59 m_full_60 m_climb_61 m_rises_62 m_winds_63 m_primeAt_64 m_tape_65 m_clauses_66 m_letter_67 m_sign_68 m_bar_69 m_pace_70 m_rides_71 m_isOut_72 m_metre_73 m_charge_74 m_held_75 m_seconds_76 m_heldOften_77 m_work_78 m_primeSeconds_79 m_row_80 m_groupSize_81 m_place_82 m_stood_83 m_history_84 m_groupHistory_85 m_didRide_86 m_toldRow_87 m_passedBy_88 m_total_89 m_points_90 m_used_91 (xs (Int32.toNatClampNeg 1)) ((xs (Int32.toNatClampNeg 1)).toInt) rfl) ⟨callB_of 1 hts (zz_goodL zw_1092) rfl rfl rfl hw7 hw146 (by decide +kernel) ⟨Nat.le_of_ble_eq_true rfl, Nat.le_of_ble_eq_true rfl⟩, hw147, hw148⟩ ⟨fun a U g mk q => by obtain ⟨q0, q1, qP, qK, qD⟩ := q; exact ⟨q0, q1, qP, va_K.moved (u := U) (U := U.calling g mk a) (Vm.Alike.refl U.vm) qK, qD⟩, va_recv hK hPc (ci := 10) (q0 := 0) rfl rfl, fun U hU hW => ⟨rfl, by rw [hU], by rw [hU]; exact hPc, va_K.moved hW.alike hK, hDc.weaken (fun _ _ _ _ => trivial)⟩⟩ rfl rfl hl.1 rfl (lv_room (Nat.le_of_ble_eq_true rfl)) dL_law_923 ⟨Nat.le_of_ble_eq_true rfl, Nat.le_of_ble_eq_true rfl⟩) hS (fun q _ h => hFc q h) hFc (fun r_424 u t H1 locs ht hvm hpost hB hz1 hk1 hS => ?_)
      subst hpost
      obtain ⟨hf_425, hP1, hK1, hD1⟩ := hB
      rw [ht] at hP1
      obtain ⟨hP, hD⟩ := va_join (wr := []) (w1 := []) hP hD [0] [] rfl rfl (by decide) (by decide) hk1 hFc hP1 hD1
      generalize H1 = H at hP hS ⊢
      have hP : va_P (dC, dI) vwCl [] H := hP
      have hD : va_D (fun q : Nat => s.heap.size ≤ q) [] := hD
      have hf_425 : ((((xs (Int32.toNatClampNeg 1)).toInt) < 0 ∨ 6 < ((xs (Int32.toNatClampNeg 1)).toInt)) ∧ r_424.toInt = -1) ∨ (((xs (Int32.toNatClampNeg 1)).toInt) = 1 ∧ r_424.toInt = 1) ∨ (0 ≤ ((xs (Int32.toNatClampNeg 1)).toInt) ∧ ((xs (Int32.toNatClampNeg 1)).toInt) ≤ 6 ∧ ((xs (Int32.toNatClampNeg 1)).toInt) ≠ 1 ∧ r_424.toInt = 0) := hf_425
      refine lv_icmp_eq (tgt := 931) hx hb dL_law_926 (by decide) (fun c_426 => ?_) (fun c_426 => ?_)
      ·
        have c_426 : (r_421).toInt = (r_424).toInt := zz_eq rfl rfl c_426
        refine lv_iinc (v := 7) (lv' := [(3, .int 7), (2, .ref q_57), (1, .ref q_1), (0, .ref b)]) hx hb dL_law_931 hl (k := 0) rfl (by decide) (by decide) rfl (fun ls hl => ?_)
        refine lv_goto (tgt := 18) hx hb dL_law_934 (by decide) ?_
        refine lv_iload_n hx hb dL_law_18 rfl (lv_at hl 0 rfl) ?_
        refine lv_aload_n hx hb dL_law_19 rfl (lv_at hl 3 rfl) ?_
        refine va_slen hx hb hX hbl hbA hS dL_law_20 ?_
        refine lv_bipush (v := 7) hx hb dL_law_21 (by decide) ?_
        refine lv_isub hx hb dL_law_23 ?_
        refine lv_topi (fun v_427 ev_427 => ?_)
        have hv_427 : v_427.toInt = ((L : Int) - (7:Int)) := by rw [ev_427]; exact zz_subI (nI_toInt (by omega)) (by decide) (by omega) (by omega)
        refine lv_icmp_gt (tgt := 937) hx hb dL_law_24 (by decide) (fun c_428 => ?_) (fun c_428 => ?_)
        ·
          have c_428 : ((L : Int) - (7:Int)) < (7:Int) := zz_lt hv_427 (by decide) c_428
          refine lv_iconst (v := 1) hx hb dL_law_937 (by decide) ?_
          refine va_forget (fun q hq => hS.2.2 q hq) ?_
          refine W.widen (k := 91) (n := 20364) (Nat.le_of_ble_eq_true rfl) (Nat.le_of_ble_eq_true rfl) ?_
          exact lw_ret hx hb hr hlocks dL_law_938
        ·
          have c_428 : ¬ (((L : Int) - (7:Int)) < (7:Int)) := zz_ltn hv_427 (by decide) c_428
          exact absurd c_428 (by omega)
      ·
        have c_426 : ¬ ((r_421).toInt = (r_424).toInt) := zz_eqn rfl rfl c_426
        exact absurd c_426 (by omega)
