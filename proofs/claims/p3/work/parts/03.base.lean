/-! ===== my own base: one list of words for all contracts, comparisons as Int, new arrays of the two known classes ===== -/
def lw_good : List Cond := lw_tbl.filter goodWord
theorem zz_good {y y' : MethodName} {c c' : ByteArray} {n n' : Nat} {r r' : Option FieldType} (h : Cond.code y' c' n' r' ∈ lw_good) : GoodIn (Cond.code y c n r :: lw_good) (Cond.code y' c' n' r' :: lw_good) := by
  intro w hw
  rcases List.mem_cons.mp hw with e | h2
  · subst e
    exact ⟨List.mem_cons_of_mem _ h, good_of_word (List.mem_filter.mp h).2⟩
  · exact ⟨List.mem_cons_of_mem _ h2, good_of_word (List.mem_filter.mp h2).2⟩
theorem zz_goodL {y' : MethodName} {c' : ByteArray} {n' : Nat} {r' : Option FieldType} (h : Cond.code y' c' n' r' ∈ lw_good) : GoodIn lw_tbl (Cond.code y' c' n' r' :: lw_good) := by
  intro w hw
  rcases List.mem_cons.mp hw with e | h2
  · subst e
    exact ⟨(List.mem_filter.mp h).1, good_of_word (List.mem_filter.mp h).2⟩
  · exact ⟨(List.mem_filter.mp h2).1, good_of_word (List.mem_filter.mp h2).2⟩
theorem zz_ins (ws : List Cond) (ps : List Nat) (hp : ws = ps.filterMap (fun i => lw_tbl[i]?)) (h : ws.all goodWord = true) : ∀ w ∈ ws, w ∈ lw_good := by
  intro w hw
  have h1 := List.all_eq_true.mp h w hw
  rw [hp] at hw
  obtain ⟨i, -, hi⟩ := List.mem_filterMap.mp hw
  exact List.mem_filter.mpr ⟨List.mem_of_getElem? hi, h1⟩
theorem zz_le {x y : Int32} {a b : Int} (hx : x.toInt = a) (hy : y.toInt = b) (h : x ≤ y) : a ≤ b := by rw [← hx, ← hy]; exact Int32.le_iff_toInt_le.mp h
theorem zz_len {x y : Int32} {a b : Int} (hx : x.toInt = a) (hy : y.toInt = b) (h : ¬ x ≤ y) : ¬ a ≤ b := by rw [← hx, ← hy]; exact fun q => h (Int32.le_iff_toInt_le.mpr q)
theorem zz_lt {x y : Int32} {a b : Int} (hx : x.toInt = a) (hy : y.toInt = b) (h : x < y) : a < b := by rw [← hx, ← hy]; exact Int32.lt_iff_toInt_lt.mp h
theorem zz_ltn {x y : Int32} {a b : Int} (hx : x.toInt = a) (hy : y.toInt = b) (h : ¬ x < y) : ¬ a < b := by rw [← hx, ← hy]; exact fun q => h (Int32.lt_iff_toInt_lt.mpr q)
theorem zz_eq {x y : Int32} {a b : Int} (hx : x.toInt = a) (hy : y.toInt = b) (h : x = y) : a = b := by rw [← hx, ← hy, h]
theorem zz_eqn {x y : Int32} {a b : Int} (hx : x.toInt = a) (hy : y.toInt = b) (h : ¬ x = y) : ¬ a = b := by rw [← hx, ← hy]; exact fun q => h (Int32.toInt_inj.mp q)
theorem zz_in {i : Int32} {n : Nat} {a : Int} (hi : i.toInt = a) (h0 : 0 ≤ a) (h1 : a < n) : vp_in i n := vp_in_iff.mpr ⟨by rw [hi]; exact h0, by rw [hi]; exact h1⟩
theorem zz_inl {i : Int32} {n : Nat} (h : decide (¬ (i < 0 ∨ n ≤ i.toNatClampNeg)) = true) : vp_in i n := by
  have h2 : ¬ (i < 0 ∨ n ≤ i.toNatClampNeg) := of_decide_eq_true h
  exact h2
theorem zz_bm {z : Int} (h1 : -2147483648 ≤ z) (h2 : z < 2147483648) : z.bmod (2 ^ 32) = z := by
  rw [Int.bmod_eq_of_le (by omega) (by omega)]
theorem zz_addI {x y : Int32} {a b : Int} (hx : x.toInt = a) (hy : y.toInt = b) (h1 : -2147483648 ≤ a + b) (h2 : a + b < 2147483648) : (x + y).toInt = a + b := by
  rw [Int32.toInt_add, hx, hy]; exact zz_bm h1 h2
theorem zz_subI {x y : Int32} {a b : Int} (hx : x.toInt = a) (hy : y.toInt = b) (h1 : -2147483648 ≤ a - b) (h2 : a - b < 2147483648) : (x - y).toInt = a - b := by
  rw [Int32.toInt_sub, hx, hy]; exact zz_bm h1 h2
theorem zz_mulI {x y : Int32} {a b : Int} (hx : x.toInt = a) (hy : y.toInt = b) (h1 : -2147483648 ≤ a * b) (h2 : a * b < 2147483648) : (x * y).toInt = a * b := by
  rw [Int32.toInt_mul, hx, hy]; exact zz_bm h1 h2
section ZZN
variable {p : Program} {l : Launch} {e : Env} {R : Room} {s : State} {m : MethodId} {args : Array Value} {below : List Frame} {meth : Method} {c : Code} {H : Heap} {locs : List Loc} {cells slots : Nat} {Q : State → Prop} {cc : ByteArray} {D : va_G} {cl : List vw_C} {tys : List (ClassId × FieldType)} {ws : va_W} {A : Nat → Prop} {H0 : Heap} {pc : Nat} {ls : Array Slot} {rest : List Value}
theorem zz_newaI (hexec : p.tables.exec = Jvm.exec) (hb : c.code = cc) (harr : (Cond.arrayClass .int).before args s = true) (hK : va_K D cl tys s) (hP : va_P D cl ws H) (hD : va_D A ws) (hS : va_S A H0 H locs) (hA : ∀ q, H0.size ≤ q → A q) (t0 : Nat) {cY : ClassId} (ht : tys[t0]? = some (cY, .int))
    {n : Int32} {N' : Nat} {a0 : vp_A} (ha : ∀ cA : ClassId, vp_cell cA a0 = arrV cA N' (fun _ => defaultValue .int)) (hn : ¬ n < 0) (hN : n.toNatClampNeg = N') (hbytes : N' * componentBytes .int ≤ 536870912) (hcells : cells + 1 ≤ R.cells) (hslots : slots + N' ≤ R.slots) (hdg : decode cc pc = .ok (.newarray .int, 2))
    (kk : ∀ (q : Nat) (H1 : Heap), va_P D cl (ws ++ [(q, .inl (cY, a0))]) H1 → va_D A (ws ++ [(q, .inl (cY, a0))]) → va_S A H0 H1 locs → W p l e R s m args below meth c H1 locs (cells + 1) (slots + N') Q (F0 m (pc + 2) ls (.ref q :: rest))) : W p l e R s m args below meth c H locs cells slots Q (F0 m pc ls (.int n :: rest)) := by
  refine va_newa (atype := .int) (ty := .int) hexec hb harr rfl hK hP hD hS hA ha hn hN hbytes hcells hslots hdg (fun q cA H1 hK1 hP1 hD1 hS1 => ?_)
  have h1 : s.vm.findClass ("[" ++ FieldType.int.toString) = some cA := (hK1.2 tys.length (cA, .int) (by simp)).2
  have h2 : s.vm.findClass ("[" ++ FieldType.int.toString) = some cY := (hK.2 t0 _ ht).2
  have e := Option.some.inj (h1.symm.trans h2)
  subst e
  exact kk q H1 hP1 hD1 hS1
theorem zz_newaZ (hexec : p.tables.exec = Jvm.exec) (hb : c.code = cc) (harr : (Cond.arrayClass .boolean).before args s = true) (hK : va_K D cl tys s) (hP : va_P D cl ws H) (hD : va_D A ws) (hS : va_S A H0 H locs) (hA : ∀ q, H0.size ≤ q → A q) (t0 : Nat) {cY : ClassId} (ht : tys[t0]? = some (cY, .boolean))
    {n : Int32} {N' : Nat} {a0 : vp_A} (ha : ∀ cA : ClassId, vp_cell cA a0 = arrV cA N' (fun _ => defaultValue .boolean)) (hn : ¬ n < 0) (hN : n.toNatClampNeg = N') (hbytes : N' * componentBytes .boolean ≤ 536870912) (hcells : cells + 1 ≤ R.cells) (hslots : slots + N' ≤ R.slots) (hdg : decode cc pc = .ok (.newarray .boolean, 2))
    (kk : ∀ (q : Nat) (H1 : Heap), va_P D cl (ws ++ [(q, .inl (cY, a0))]) H1 → va_D A (ws ++ [(q, .inl (cY, a0))]) → va_S A H0 H1 locs → W p l e R s m args below meth c H1 locs (cells + 1) (slots + N') Q (F0 m (pc + 2) ls (.ref q :: rest))) : W p l e R s m args below meth c H locs cells slots Q (F0 m pc ls (.int n :: rest)) := by
  refine va_newa (atype := .boolean) (ty := .boolean) hexec hb harr rfl hK hP hD hS hA ha hn hN hbytes hcells hslots hdg (fun q cA H1 hK1 hP1 hD1 hS1 => ?_)
  have h1 : s.vm.findClass ("[" ++ FieldType.boolean.toString) = some cA := (hK1.2 tys.length (cA, .boolean) (by simp)).2
  have h2 : s.vm.findClass ("[" ++ FieldType.boolean.toString) = some cY := (hK.2 t0 _ ht).2
  have e := Option.some.inj (h1.symm.trans h2)
  subst e
  exact kk q H1 hP1 hD1 hS1
end ZZN
theorem zz_dfX0 : ∀ j, j < 5 → defaultValue (tyX0 j) = vp_V [.int 0, .int 0, .null, .null, .null] j := by decide +kernel
theorem zz_dfX1 : ∀ j, j < 5 → defaultValue (tyX1 j) = vp_V [.null, .null, .null, .null, .null] j := by decide +kernel
theorem zz_dfX2 : ∀ j, j < 5 → defaultValue (tyX2 j) = vp_V [.int 0, .int 0, .int 0, .int 0, .int 0] j := by decide +kernel
theorem zz_dfX3 : ∀ j, j < 16 → defaultValue (tyX3 j) = vp_V [.int 0, .int 0, .int 0, .long 0, .int 0, .null, .null, .null, .null, .null, .null, .null, .null, .null, .null, .null] j := by decide +kernel
theorem zz_dfX4 : ∀ j, j < 2 → defaultValue (tyX4 j) = vp_V [.null, .null] j := by decide +kernel
theorem zz_dfX5 : ∀ j, j < 5 → defaultValue (tyX5 j) = vp_V [.int 0, .null, .null, .null, .null] j := by decide +kernel
theorem zz_dfX6 : ∀ j, j < 7 → defaultValue (tyX6 j) = vp_V [.int 0, .null, .null, .int 0, .null, .int 0, .int 0] j := by decide +kernel
theorem zz_dfX7 : ∀ j, j < 5 → defaultValue (tyX7 j) = vp_V [.int 0, .int 0, .null, .null, .null] j := by decide +kernel
theorem zz_dfX8 : ∀ j, j < 2 → defaultValue (tyX8 j) = vp_V [.int 0, .null] j := by decide +kernel
theorem zz_dfX9 : ∀ j, j < 12 → defaultValue (tyX9 j) = vp_V [.null, .null, .null, .null, .null, .null, .null, .null, .null, .int 0, .int 0, .int 0] j := by decide +kernel
theorem zz_dfX10 : ∀ j, j < 52 → defaultValue (tyX10 j) = vp_V [.int 0, .int 0, .int 0, .int 0, .int 0, .int 0, .int 0, .int 0, .null, .null, .null, .null, .null, .null, .null, .null, .int 0, .int 0, .int 0, .null, .null, .null, .null, .null, .null, .null, .null, .null, .null, .null, .null, .null, .null, .int 0, .long 0, .null, .int 0, .null, .null, .null, .null, .null, .int 0, .int 0, .int 0, .int 0, .null, .null, .null, .null, .null, .null] j := by decide +kernel
/-! ===== ranges of array contents; max and min; the static array ===== -/
def zr (f : Nat → Int32) (n : Nat) (lo hi : Int) : Prop := ∀ j, j < n → lo ≤ (f j).toInt ∧ (f j).toInt ≤ hi
theorem zr_get {f : Nat → Int32} {n : Nat} {lo hi : Int} (h : zr f n lo hi) {i : Int32} {a : Int} (hi' : i.toInt = a) (h0 : 0 ≤ a) (h1 : a < n) : lo ≤ (f (Int32.toNatClampNeg i)).toInt ∧ (f (Int32.toNatClampNeg i)).toInt ≤ hi := by
  refine h _ ?_
  show i.toInt.toNat < n
  rw [hi']
  omega
theorem zr_upd {f : Nat → Int32} {n : Nat} {lo hi : Int} (h : zr f n lo hi) (k : Nat) {x : Int32} {b : Int} (hx : x.toInt = b) (h0 : lo ≤ b) (h1 : b ≤ hi) : zr (upd f k x) n lo hi := by
  intro j hj
  by_cases q : j = k
  · subst q
    simp only [upd, if_pos, hx]
    exact ⟨h0, h1⟩
  · simp only [upd, if_neg q]
    exact h j hj
theorem zr_zero {n : Nat} {lo hi : Int} (h0 : lo ≤ 0) (h1 : 0 ≤ hi) : zr (fun _ => 0) n lo hi := by
  intro j _
  have e : (0 : Int32).toInt = 0 := by decide
  simp only [e]
  exact ⟨h0, h1⟩
theorem zz_rngF {x : Int32} {a : Int} (hx : x.toInt = a) : -2147483648 ≤ a ∧ a < 2147483648 := by
  have h1 := Int32.le_toInt x
  have h2 := Int32.toInt_lt x
  omega
theorem zz_ne0 {y : Int32} {a : Int} (hy : y.toInt = a) (h : ¬ a = 0) : ¬ y = 0 := by
  intro q
  subst q
  exact h (hy.symm.trans (by decide))
theorem zz_max {x y v : Int32} {a b : Int} (hx : x.toInt = a) (hy : y.toInt = b) (e : v = if x < y then y else x) : (a < b ∧ v.toInt = b) ∨ (b ≤ a ∧ v.toInt = a) := by
  by_cases q : x < y
  · rw [if_pos q] at e
    exact Or.inl ⟨zz_lt hx hy q, by rw [e, hy]⟩
  · rw [if_neg q] at e
    have := zz_ltn hx hy q
    exact Or.inr ⟨by omega, by rw [e, hx]⟩
theorem zz_min {x y v : Int32} {a b : Int} (hx : x.toInt = a) (hy : y.toInt = b) (e : v = if y < x then y else x) : (b < a ∧ v.toInt = b) ∨ (a ≤ b ∧ v.toInt = a) := by
  by_cases q : y < x
  · rw [if_pos q] at e
    exact Or.inl ⟨zz_lt hy hx q, by rw [e, hy]⟩
  · rw [if_neg q] at e
    have := zz_ltn hy hx q
    exact Or.inr ⟨by omega, by rw [e, hx]⟩
theorem zz_nb {v : Int32} {a : Int} (hv : v.toInt = a) (h0 : 0 ≤ a) (h1 : a ≤ 1) : narrow .boolean (.int v) = .int v := by
  rcases (show a = 0 ∨ a = 1 by omega) with q | q
  · have e : v = 0 := Int32.toInt_inj.mp (hv.trans (by rw [q]; decide))
    rw [e]; rfl
  · have e : v = 1 := Int32.toInt_inj.mp (hv.trans (by rw [q]; decide))
    rw [e]; rfl
def zS (tS : Nat) (A : Nat → Prop) (U : State) : Prop := va_Z "BunchRace" "STAGE_POINTS" "[I" (.ref tS) A U U.heap ∧ (∃ f : Nat → Int32, va_T .int tS 3 (fun j => .int (f j)) A U U.heap) ∧ va_Nw (.fieldLinkNest RX7 47 "BunchRace" "STAGE_POINTS" "[I" "BunchRace") U
theorem zS_blind {tS : Nat} {A : Nat → Prop} {U V : State} (hv : U.vm = V.vm) (hh : V.heap = U.heap) (h : zS tS A U) : zS tS A V := by
  obtain ⟨h1, ⟨f, h2⟩, h3⟩ := h
  have ha : U.vm.Alike V.vm := by rw [hv]; exact Vm.Alike.refl _
  refine ⟨?_, ⟨f, ?_⟩, va_Nw.same rfl hv h3⟩
  · rw [hh]; exact va_Z.moved ha h1
  · rw [hh]; exact va_T.moved ha h2
theorem zS_call {tS : Nat} {A B : Nat → Prop} {s U : State} {H : Heap} {locs : List Loc} (h : zS tS A s) (hS : va_S A s.heap H locs) (hF : ∀ q, B q → A q) (hU : U.heap = H) (hW : s.WarmedH U.vm) : zS tS B U := by
  obtain ⟨h1, ⟨f, h2⟩, h3⟩ := h
  refine ⟨?_, ⟨f, ?_⟩, va_Nw.warmF hW h3⟩
  · rw [hU]; exact va_Z.moved hW.alike ((h1.kept (H1 := H) (fun q a b => hS.2.1 q a b)).narrow hF)
  · rw [hU]; exact va_T.moved hW.alike ((h2.kept (H1 := H) (fun q a b => hS.2.1 q a b)).narrow hF)
