/-! ===== my own base: one list of words for all contracts, comparisons as Int, new arrays of the two known classes ===== -/
def lw_good : List Cond := lw_tbl.filter goodWord
theorem zz_good {y y' : MethodName} {c c' : ByteArray} {n n' : Nat} {r r' : Option FieldType} (h : Cond.code y' c' n' r' ∈ lw_good) : GoodIn (Cond.code y c n r :: lw_good) (Cond.code y' c' n' r' :: lw_good) := by
  intro w hw
  rcases List.mem_cons.mp hw with e | h2
  · subst e
    exact ⟨List.mem_cons_of_mem _ h, good_of_word (List.mem_filter.mp h).2⟩
  · exact ⟨List.mem_cons_of_mem _ h2, good_of_word (List.mem_filter.mp h2).2⟩
theorem zz_goodL {y' : MethodName} {c' : ByteArray} {n' : Nat} {r' : Option FieldType} (h : Cond.code y' c' n' r' ∈ lw_good) : GoodIn lw_tbl (Cond.code y' c' n' r' :: lw_good) := by
  intro w hw
  rcases List.mem_cons.mp hw with e | h2
  · subst e
    exact ⟨(List.mem_filter.mp h).1, good_of_word (List.mem_filter.mp h).2⟩
  · exact ⟨(List.mem_filter.mp h2).1, good_of_word (List.mem_filter.mp h2).2⟩
theorem zz_ins (ws : List Cond) (ps : List Nat) (hp : ws = ps.filterMap (fun i => lw_tbl[i]?)) (h : ws.all goodWord = true) : ∀ w ∈ ws, w ∈ lw_good := by
  intro w hw
  have h1 := List.all_eq_true.mp h w hw
  rw [hp] at hw
  obtain ⟨i, -, hi⟩ := List.mem_filterMap.mp hw
  exact List.mem_filter.mpr ⟨List.mem_of_getElem? hi, h1⟩
theorem zz_le {x y : Int32} {a b : Int} (hx : x.toInt = a) (hy : y.toInt = b) (h : x ≤ y) : a ≤ b := by rw [← hx, ← hy]; exact Int32.le_iff_toInt_le.mp h
theorem zz_len {x y : Int32} {a b : Int} (hx : x.toInt = a) (hy : y.toInt = b) (h : ¬ x ≤ y) : ¬ a ≤ b := by rw [← hx, ← hy]; exact fun q => h (Int32.le_iff_toInt_le.mpr q)
theorem zz_lt {x y : Int32} {a b : Int} (hx : x.toInt = a) (hy : y.toInt = b) (h : x < y) : a < b := by rw [← hx, ← hy]; exact Int32.lt_iff_toInt_lt.mp h
theorem zz_ltn {x y : Int32} {a b : Int} (hx : x.toInt = a) (hy : y.toInt = b) (h : ¬ x < y) : ¬ a < b := by rw [← hx, ← hy]; exact fun q => h (Int32.lt_iff_toInt_lt.mpr q)
theorem zz_eq {x y : Int32} {a b : Int} (hx : x.toInt = a) (hy : y.toInt = b) (h : x = y) : a = b := by rw [← hx, ← hy, h]
theorem zz_eqn {x y : Int32} {a b : Int} (hx : x.toInt = a) (hy : y.toInt = b) (h : ¬ x = y) : ¬ a = b := by rw [← hx, ← hy]; exact fun q => h (Int32.toInt_inj.mp q)
theorem zz_in {i : Int32} {n : Nat} {a : Int} (hi : i.toInt = a) (h0 : 0 ≤ a) (h1 : a < n) : vp_in i n := vp_in_iff.mpr ⟨by rw [hi]; exact h0, by rw [hi]; exact h1⟩
theorem zz_inl {i : Int32} {n : Nat} (h : decide (¬ (i < 0 ∨ n ≤ i.toNatClampNeg)) = true) : vp_in i n := by
  have h2 : ¬ (i < 0 ∨ n ≤ i.toNatClampNeg) := of_decide_eq_true h
  exact h2
theorem zz_bm {z : Int} (h1 : -2147483648 ≤ z) (h2 : z < 2147483648) : z.bmod (2 ^ 32) = z := by
  rw [Int.bmod_eq_of_le (by omega) (by omega)]
theorem zz_addI {x y : Int32} {a b : Int} (hx : x.toInt = a) (hy : y.toInt = b) (h1 : -2147483648 ≤ a + b) (h2 : a + b < 2147483648) : (x + y).toInt = a + b := by
  rw [Int32.toInt_add, hx, hy]; exact zz_bm h1 h2
theorem zz_subI {x y : Int32} {a b : Int} (hx : x.toInt = a) (hy : y.toInt = b) (h1 : -2147483648 ≤ a - b) (h2 : a - b < 2147483648) : (x - y).toInt = a - b := by
  rw [Int32.toInt_sub, hx, hy]; exact zz_bm h1 h2
theorem zz_mulI {x y : Int32} {a b : Int} (hx : x.toInt = a) (hy : y.toInt = b) (h1 : -2147483648 ≤ a * b) (h2 : a * b < 2147483648) : (x * y).toInt = a * b := by
  rw [Int32.toInt_mul, hx, hy]; exact zz_bm h1 h2
section ZZN
variable {p : Program} {l : Launch} {e : Env} {R : Room} {s : State} {m : MethodId} {args : Array Value} {below : List Frame} {meth : Method} {c : Code} {H : Heap} {locs : List Loc} {cells slots : Nat} {Q : State → Prop} {cc : ByteArray} {D : va_G} {cl : List vw_C} {tys : List (ClassId × FieldType)} {ws : va_W} {A : Nat → Prop} {H0 : Heap} {pc : Nat} {ls : Array Slot} {rest : List Value}
theorem zz_newaI (hexec : p.tables.exec = Jvm.exec) (hb : c.code = cc) (harr : (Cond.arrayClass .int).before args s = true) (hK : va_K D cl tys s) (hP : va_P D cl ws H) (hD : va_D A ws) (hS : va_S A H0 H locs) (hA : ∀ q, H0.size ≤ q → A q) (t0 : Nat) {cY : ClassId} (ht : tys[t0]? = some (cY, .int))
    {n : Int32} {N' : Nat} {a0 : vp_A} (ha : ∀ cA : ClassId, vp_cell cA a0 = arrV cA N' (fun _ => defaultValue .int)) (hn : ¬ n < 0) (hN : n.toNatClampNeg = N') (hbytes : N' * componentBytes .int ≤ 536870912) (hcells : cells + 1 ≤ R.cells) (hslots : slots + N' ≤ R.slots) (hdg : decode cc pc = .ok (.newarray .int, 2))
    (kk : ∀ (q : Nat) (H1 : Heap), va_P D cl (ws ++ [(q, .inl (cY, a0))]) H1 → va_D A (ws ++ [(q, .inl (cY, a0))]) → va_S A H0 H1 locs → W p l e R s m args below meth c H1 locs (cells + 1) (slots + N') Q (F0 m (pc + 2) ls (.ref q :: rest))) : W p l e R s m args below meth c H locs cells slots Q (F0 m pc ls (.int n :: rest)) := by
  refine va_newa (atype := .int) (ty := .int) hexec hb harr rfl hK hP hD hS hA ha hn hN hbytes hcells hslots hdg (fun q cA H1 hK1 hP1 hD1 hS1 => ?_)
  have h1 : s.vm.findClass ("[" ++ FieldType.int.toString) = some cA := (hK1.2 tys.length (cA, .int) (by simp)).2
  have h2 : s.vm.findClass ("[" ++ FieldType.int.toString) = some cY := (hK.2 t0 _ ht).2
  have e := Option.some.inj (h1.symm.trans h2)
  subst e
  exact kk q H1 hP1 hD1 hS1
theorem zz_newaZ (hexec : p.tables.exec = Jvm.exec) (hb : c.code = cc) (harr : (Cond.arrayClass .boolean).before args s = true) (hK : va_K D cl tys s) (hP : va_P D cl ws H) (hD : va_D A ws) (hS : va_S A H0 H locs) (hA : ∀ q, H0.size ≤ q → A q) (t0 : Nat) {cY : ClassId} (ht : tys[t0]? = some (cY, .boolean))
    {n : Int32} {N' : Nat} {a0 : vp_A} (ha : ∀ cA : ClassId, vp_cell cA a0 = arrV cA N' (fun _ => defaultValue .boolean)) (hn : ¬ n < 0) (hN : n.toNatClampNeg = N') (hbytes : N' * componentBytes .boolean ≤ 536870912) (hcells : cells + 1 ≤ R.cells) (hslots : slots + N' ≤ R.slots) (hdg : decode cc pc = .ok (.newarray .boolean, 2))
    (kk : ∀ (q : Nat) (H1 : Heap), va_P D cl (ws ++ [(q, .inl (cY, a0))]) H1 → va_D A (ws ++ [(q, .inl (cY, a0))]) → va_S A H0 H1 locs → W p l e R s m args below meth c H1 locs (cells + 1) (slots + N') Q (F0 m (pc + 2) ls (.ref q :: rest))) : W p l e R s m args below meth c H locs cells slots Q (F0 m pc ls (.int n :: rest)) := by
  refine va_newa (atype := .boolean) (ty := .boolean) hexec hb harr rfl hK hP hD hS hA ha hn hN hbytes hcells hslots hdg (fun q cA H1 hK1 hP1 hD1 hS1 => ?_)
  have h1 : s.vm.findClass ("[" ++ FieldType.boolean.toString) = some cA := (hK1.2 tys.length (cA, .boolean) (by simp)).2
  have h2 : s.vm.findClass ("[" ++ FieldType.boolean.toString) = some cY := (hK.2 t0 _ ht).2
  have e := Option.some.inj (h1.symm.trans h2)
  subst e
  exact kk q H1 hP1 hD1 hS1
end ZZN
theorem zz_dfX0 : ∀ j, j < 5 → defaultValue (tyX0 j) = vp_V [.int 0, .int 0, .null, .null, .null] j := by decide +kernel
theorem zz_dfX1 : ∀ j, j < 5 → defaultValue (tyX1 j) = vp_V [.null, .null, .null, .null, .null] j := by decide +kernel
theorem zz_dfX2 : ∀ j, j < 5 → defaultValue (tyX2 j) = vp_V [.int 0, .int 0, .int 0, .int 0, .int 0] j := by decide +kernel
theorem zz_dfX3 : ∀ j, j < 16 → defaultValue (tyX3 j) = vp_V [.int 0, .int 0, .int 0, .long 0, .int 0, .null, .null, .null, .null, .null, .null, .null, .null, .null, .null, .null] j := by decide +kernel
theorem zz_dfX4 : ∀ j, j < 2 → defaultValue (tyX4 j) = vp_V [.null, .null] j := by decide +kernel
theorem zz_dfX5 : ∀ j, j < 5 → defaultValue (tyX5 j) = vp_V [.int 0, .null, .null, .null, .null] j := by decide +kernel
theorem zz_dfX6 : ∀ j, j < 7 → defaultValue (tyX6 j) = vp_V [.int 0, .null, .null, .int 0, .null, .int 0, .int 0] j := by decide +kernel
theorem zz_dfX7 : ∀ j, j < 5 → defaultValue (tyX7 j) = vp_V [.int 0, .int 0, .null, .null, .null] j := by decide +kernel
theorem zz_dfX8 : ∀ j, j < 2 → defaultValue (tyX8 j) = vp_V [.int 0, .null] j := by decide +kernel
theorem zz_dfX9 : ∀ j, j < 12 → defaultValue (tyX9 j) = vp_V [.null, .null, .null, .null, .null, .null, .null, .null, .null, .int 0, .int 0, .int 0] j := by decide +kernel
theorem zz_dfX10 : ∀ j, j < 52 → defaultValue (tyX10 j) = vp_V [.int 0, .int 0, .int 0, .int 0, .int 0, .int 0, .int 0, .int 0, .null, .null, .null, .null, .null, .null, .null, .null, .int 0, .int 0, .int 0, .null, .null, .null, .null, .null, .null, .null, .null, .null, .null, .null, .null, .null, .null, .int 0, .long 0, .null, .int 0, .null, .null, .null, .null, .null, .int 0, .int 0, .int 0, .int 0, .null, .null, .null, .null, .null, .null] j := by decide +kernel
theorem zz_remN {x y : Int32} {a d : Int} (hx : x.toInt = a) (hy : y.toInt = d) (h0 : 0 ≤ a) (hd : 0 < d) : (x - x / y * y).toInt = a % d := by
  obtain ⟨j, hj, rfl⟩ := nI_of (x := x) (fun q => by have := Int32.lt_iff_toInt_lt.mp q; rw [hx] at this; have z : (0 : Int32).toInt = 0 := by decide
                                                     omega)
  obtain ⟨k, hk, rfl⟩ := nI_of (x := y) (fun q => by have := Int32.lt_iff_toInt_lt.mp q; rw [hy] at this; have z : (0 : Int32).toInt = 0 := by decide
                                                     omega)
  rw [nI_toInt hj] at hx
  rw [nI_toInt hk] at hy
  subst hx; subst hy
  rw [pk_rem hj (by omega) hk, nI_toInt (Nat.lt_of_le_of_lt (Nat.mod_le _ _) hj)]
  exact Int.natCast_emod _ _
theorem zz_divN {x y : Int32} {a d : Int} (hx : x.toInt = a) (hy : y.toInt = d) (h0 : 0 ≤ a) (hd : 0 < d) : (x / y).toInt = a / d := by
  obtain ⟨j, hj, rfl⟩ := nI_of (x := x) (fun q => by have := Int32.lt_iff_toInt_lt.mp q; rw [hx] at this; have z : (0 : Int32).toInt = 0 := by decide
                                                     omega)
  obtain ⟨k, hk, rfl⟩ := nI_of (x := y) (fun q => by have := Int32.lt_iff_toInt_lt.mp q; rw [hy] at this; have z : (0 : Int32).toInt = 0 := by decide
                                                     omega)
  rw [nI_toInt hj] at hx
  rw [nI_toInt hk] at hy
  subst hx; subst hy
  rw [pk_div hj (by omega) hk, nI_toInt (Nat.lt_of_le_of_lt (Nat.div_le_self _ _) hj)]
  exact Int.natCast_ediv _ _
/-! ===== ranges of array contents; max and min; the static array ===== -/
def zr (f : Nat → Int32) (n : Nat) (lo hi : Int) : Prop := ∀ j, j < n → lo ≤ (f j).toInt ∧ (f j).toInt ≤ hi
theorem zr_get {f : Nat → Int32} {n : Nat} {lo hi : Int} (h : zr f n lo hi) {i : Int32} {a : Int} (hi' : i.toInt = a) (h0 : 0 ≤ a) (h1 : a < n) : lo ≤ (f (Int32.toNatClampNeg i)).toInt ∧ (f (Int32.toNatClampNeg i)).toInt ≤ hi := by
  refine h _ ?_
  show i.toInt.toNat < n
  rw [hi']
  omega
theorem zr_upd {f : Nat → Int32} {n : Nat} {lo hi : Int} (h : zr f n lo hi) (k : Nat) {x : Int32} {b : Int} (hx : x.toInt = b) (h0 : lo ≤ b) (h1 : b ≤ hi) : zr (upd f k x) n lo hi := by
  intro j hj
  by_cases q : j = k
  · subst q
    simp only [upd, if_pos, hx]
    exact ⟨h0, h1⟩
  · simp only [upd, if_neg q]
    exact h j hj
theorem zr_zero {n : Nat} {lo hi : Int} (h0 : lo ≤ 0) (h1 : 0 ≤ hi) : zr (fun _ => 0) n lo hi := by
  intro j _
  have e : (0 : Int32).toInt = 0 := by decide
  simp only [e]
  exact ⟨h0, h1⟩
theorem zz_rngF {x : Int32} {a : Int} (hx : x.toInt = a) : -2147483648 ≤ a ∧ a < 2147483648 := by
  have h1 := Int32.le_toInt x
  have h2 := Int32.toInt_lt x
  omega
theorem zz_ne0 {y : Int32} {a : Int} (hy : y.toInt = a) (h : ¬ a = 0) : ¬ y = 0 := by
  intro q
  subst q
  exact h (hy.symm.trans (by decide))
theorem zz_max {x y v : Int32} {a b : Int} (hx : x.toInt = a) (hy : y.toInt = b) (e : v = if x < y then y else x) : (a < b ∧ v.toInt = b) ∨ (b ≤ a ∧ v.toInt = a) := by
  by_cases q : x < y
  · rw [if_pos q] at e
    exact Or.inl ⟨zz_lt hx hy q, by rw [e, hy]⟩
  · rw [if_neg q] at e
    have := zz_ltn hx hy q
    exact Or.inr ⟨by omega, by rw [e, hx]⟩
theorem zz_min {x y v : Int32} {a b : Int} (hx : x.toInt = a) (hy : y.toInt = b) (e : v = if y < x then y else x) : (b < a ∧ v.toInt = b) ∨ (a ≤ b ∧ v.toInt = a) := by
  by_cases q : y < x
  · rw [if_pos q] at e
    exact Or.inl ⟨zz_lt hy hx q, by rw [e, hy]⟩
  · rw [if_neg q] at e
    have := zz_ltn hy hx q
    exact Or.inr ⟨by omega, by rw [e, hx]⟩
theorem zz_nb {v : Int32} {a : Int} (hv : v.toInt = a) (h0 : 0 ≤ a) (h1 : a ≤ 1) : narrow .boolean (.int v) = .int v := by
  rcases (show a = 0 ∨ a = 1 by omega) with q | q
  · have e : v = 0 := Int32.toInt_inj.mp (hv.trans (by rw [q]; decide))
    rw [e]; rfl
  · have e : v = 1 := Int32.toInt_inj.mp (hv.trans (by rw [q]; decide))
    rw [e]; rfl
def zS (tS : Nat) (A : Nat → Prop) (U : State) : Prop := va_Z "BunchRace" "STAGE_POINTS" "[I" (.ref tS) A U U.heap ∧ (∃ f : Nat → Int32, va_T .int tS 3 (fun j => .int (f j)) A U U.heap) ∧ va_Nw (.fieldLinkNest RX7 47 "BunchRace" "STAGE_POINTS" "[I" "BunchRace") U
theorem zS_blind {tS : Nat} {A : Nat → Prop} {U V : State} (hv : U.vm = V.vm) (hh : V.heap = U.heap) (h : zS tS A U) : zS tS A V := by
  obtain ⟨h1, ⟨f, h2⟩, h3⟩ := h
  have ha : U.vm.Alike V.vm := by rw [hv]; exact Vm.Alike.refl _
  refine ⟨?_, ⟨f, ?_⟩, va_Nw.same rfl hv h3⟩
  · rw [hh]; exact va_Z.moved ha h1
  · rw [hh]; exact va_T.moved ha h2
theorem zS_call {tS : Nat} {A B : Nat → Prop} {s U : State} {H : Heap} {locs : List Loc} (h : zS tS A s) (hS : va_S A s.heap H locs) (hF : ∀ q, B q → A q) (hU : U.heap = H) (hW : s.WarmedH U.vm) : zS tS B U := by
  obtain ⟨h1, ⟨f, h2⟩, h3⟩ := h
  refine ⟨?_, ⟨f, ?_⟩, va_Nw.warmF hW h3⟩
  · rw [hU]; exact va_Z.moved hW.alike ((h1.kept (H1 := H) (fun q a b => hS.2.1 q a b)).narrow hF)
  · rw [hU]; exact va_T.moved hW.alike ((h2.kept (H1 := H) (fun q a b => hS.2.1 q a b)).narrow hF)
theorem zz_divB {x y : Int32} {a d : Int} (hx : x.toInt = a) (hy : y.toInt = d) (h0 : 0 ≤ a) (hd : 0 < d) : 0 ≤ (x / y).toInt ∧ (x / y).toInt ≤ a := by
  rw [zz_divN hx hy h0 hd]
  exact ⟨Int.ediv_nonneg h0 (by omega), Int.ediv_le_self _ h0⟩
theorem zz_divC {x y : Int32} {a d : Int} (hx : x.toInt = a) (hy : y.toInt = d) (hd : 0 < d) : (0 ≤ a ∧ 0 ≤ (x / y).toInt ∧ (x / y).toInt ≤ a) ∨ (a < 0 ∧ a ≤ (x / y).toInt ∧ (x / y).toInt ≤ 0) := by
  have hr := zz_rngF hx
  rcases Int.lt_or_le a 0 with q | q
  · refine Or.inr ⟨q, ?_⟩
    have e1 : a.tdiv d = -((-a) / d) := by
      have h := Int.neg_tdiv (a := -a) (b := d)
      have h3 : (-a).tdiv d = (-a) / d := Int.tdiv_eq_ediv_of_nonneg (by omega)
      rw [Int.neg_neg, h3] at h
      exact h
    have h1 : 0 ≤ (-a) / d := Int.ediv_nonneg (by omega) (by omega)
    have h2 : (-a) / d ≤ -a := Int.ediv_le_self _ (by omega)
    rw [Int32.toInt_div, hx, hy, e1, zz_bm (by omega) (by omega)]
    omega
  · exact Or.inl ⟨q, zz_divB hx hy q hd⟩
/-! the reference's riders: who has no seconds is short of the end -/
def zs (me se : Nat → Int32) : Prop := ∀ j, j < 20 → (se j).toInt = -1 → (me j).toInt ≤ 29999
def zsx (me se : Nat → Int32) (k : Nat) : Prop := ∀ j, j < 20 → j ≠ k → (se j).toInt = -1 → (me j).toInt ≤ 29999
theorem zu_at (f : Nat → Int32) (k : Nat) (x : Int32) : upd f k x k = x := by simp [upd]
theorem zu_ne (f : Nat → Int32) {k j : Nat} (x : Int32) (h : j ≠ k) : upd f k x j = f j := by simp [upd, h]
theorem zs_me {me se : Nat → Int32} (h : zs me se) (k : Nat) {x : Int32} {b : Int} (hx : x.toInt = b) (hb : b ≤ 29999) : zs (upd me k x) se := by
  intro j hj hs
  by_cases q : j = k
  · subst q; rw [zu_at, hx]; exact hb
  · rw [zu_ne me x q]; exact h j hj hs
theorem zs_set {me se : Nat → Int32} (h : zs me se) (k : Nat) (x : Int32) (hk : (me k).toInt ≤ 29999) : zs me (upd se k x) := by
  intro j hj hs
  by_cases q : j = k
  · subst q; exact hk
  · rw [zu_ne se x q] at hs; exact h j hj hs
theorem zs_x {me se : Nat → Int32} (h : zs me se) (k : Nat) (x : Int32) : zsx (upd me k x) se k := by
  intro j hj q hs
  rw [zu_ne me x q]; exact h j hj hs
theorem zsx_ok {me se : Nat → Int32} {k : Nat} (h : zsx me se k) (hk : (me k).toInt ≤ 29999) : zs me se := by
  intro j hj hs
  by_cases q : j = k
  · subst q; exact hk
  · exact h j hj q hs
theorem zsx_se {me se : Nat → Int32} {k : Nat} (h : zsx me se k) {x : Int32} {b : Int} (hx : x.toInt = b) (hb : ¬ b = -1) : zs me (upd se k x) := by
  intro j hj hs
  by_cases q : j = k
  · subst q; rw [zu_at, hx] at hs; exact absurd hs hb
  · rw [zu_ne se x q] at hs; exact h j hj q hs
theorem zsx_set {me se : Nat → Int32} {k : Nat} (h : zsx me se k) {x : Int32} {b : Int} (hx : x.toInt = b) (hb : (me k).toInt ≤ 29999 ∨ ¬ b = -1) : zs me (upd se k x) := by
  intro j hj hs
  by_cases q : j = k
  · subst q
    rw [zu_at, hx] at hs
    rcases hb with z | z
    · exact z
    · exact absurd hs z
  · rw [zu_ne se x q] at hs; exact h j hj q hs
theorem zs_zero : zs (fun _ => 0) (fun _ => 0) := by
  intro j _ h
  have h2 : (0 : Int32).toInt = -1 := h
  exact absurd h2 (by decide)
/-! the row: everybody in it is a rider without seconds -/
def zl (row se : Nat → Int32) (R N : Int) : Prop := ∀ q : Nat, (q : Int) < N → 0 ≤ (row q).toInt ∧ (row q).toInt < R ∧ (se (row q).toInt.toNat).toInt = -1
def zlh (row se : Nat → Int32) (R N K : Int) : Prop := ∀ q : Nat, (q : Int) ≤ N → ¬ (q : Int) = K → 0 ≤ (row q).toInt ∧ (row q).toInt < R ∧ (se (row q).toInt.toNat).toInt = -1
theorem zl_zero {row se : Nat → Int32} {R N : Int} (h : N ≤ 0) : zl row se R N := by
  intro q hq
  omega
theorem zl_h {row se : Nat → Int32} {R N K : Int} (h : zl row se R N) (e : K = N) : zlh row se R N K := by
  intro q hq hk
  exact h q (by omega)
theorem zlh_mv {row se : Nat → Int32} {R N K K2 : Int} (h : zlh row se R N K) (i i2 x : Int32) (hx : x = row (Int32.toNatClampNeg i2)) (hi : i.toInt = K) (hi2 : i2.toInt = K2) (e : K2 = K - 1) (h0 : 0 ≤ K2) (hN : K ≤ N) : zlh (upd row (Int32.toNatClampNeg i) x) se R N K2 := by
  have e1 : Int32.toNatClampNeg i = K.toNat := by show i.toInt.toNat = _; rw [hi]
  have e2 : Int32.toNatClampNeg i2 = K2.toNat := by show i2.toInt.toNat = _; rw [hi2]
  intro q hq hk
  by_cases z : q = K.toNat
  · rw [e1, z, zu_at, hx, e2]
    exact h K2.toNat (by omega) (by omega)
  · rw [e1, zu_ne row x z]
    exact h q hq (by omega)
theorem zlh_end {row se : Nat → Int32} {R N K M : Int} (h : zlh row se R N K) (i r : Int32) {a : Int} (hr : r.toInt = a) (h0 : 0 ≤ a) (hR : a < R) (hse : (se (Int32.toNatClampNeg r)).toInt = -1) (hi : i.toInt = K) (hK : 0 ≤ K) (hM : M ≤ N + 1) : zl (upd row (Int32.toNatClampNeg i) r) se R M := by
  have e1 : Int32.toNatClampNeg i = K.toNat := by show i.toInt.toNat = _; rw [hi]
  intro q hq
  by_cases z : q = K.toNat
  · rw [e1, z, zu_at]
    exact ⟨by rw [hr]; exact h0, by rw [hr]; exact hR, hse⟩
  · rw [e1, zu_ne row r z]
    exact h q (by omega) (by omega)
/-! where those who ride stood -/
def zp (so se : Nat → Int32) (N : Int) : Prop := ∀ j : Nat, (j : Int) < N → (se j).toInt = -1 → (so j).toInt ≤ 29999
theorem zp_zero {so se : Nat → Int32} {N : Int} (h : N ≤ 0) : zp so se N := by
  intro j hj
  omega
theorem zp_st {so se me : Nat → Int32} {N M : Int} (h : zp so se N) (hz : zs me se) (i x : Int32) (hx : x = me (Int32.toNatClampNeg i)) (hi : i.toInt = N) (h0 : 0 ≤ N) (h2 : N < 20) (hM : M = N + 1) : zp (upd so (Int32.toNatClampNeg i) x) se M := by
  have e1 : Int32.toNatClampNeg i = N.toNat := by show i.toInt.toNat = _; rw [hi]
  intro j hj hs
  by_cases z : j = N.toNat
  · rw [e1, z, zu_at, hx, e1]
    exact hz N.toNat (by omega) (by rw [← z]; exact hs)
  · rw [e1, zu_ne so x z]
    exact h j (by omega) hs
def zf (row so : Nat → Int32) (N : Int) : Prop := ∀ q : Nat, (q : Int) < N → (so (row q).toInt.toNat).toInt ≤ 29999
theorem zf_of {row se so : Nat → Int32} {R N M : Int} (h : zl row se R N) (h2 : zp so se M) (hM : R ≤ M) : zf row so N := by
  intro q hq
  obtain ⟨a1, a2, a3⟩ := h q hq
  exact h2 _ (by omega) a3
theorem zf_get {row so : Nat → Int32} {N : Int} (h : zf row so N) (i r : Int32) {a : Int} (hr : r = row (Int32.toNatClampNeg i)) (hi : i.toInt = a) (h0 : 0 ≤ a) (hN : a < N) : (so (Int32.toNatClampNeg r)).toInt ≤ 29999 := by
  have e1 : Int32.toNatClampNeg i = a.toNat := by show i.toInt.toNat = _; rw [hi]
  have e2 : Int32.toNatClampNeg r = (row a.toNat).toInt.toNat := by show r.toInt.toNat = _; rw [hr, e1]
  rw [e2]
  exact h a.toNat (by omega)
theorem zl_mono {row se : Nat → Int32} {R N M : Int} (h : zl row se R N) (e : M ≤ N) : zl row se R M := fun q hq => h q (by omega)
theorem zlh_eq {row se : Nat → Int32} {R N K K2 : Int} (h : zlh row se R N K) (e : K2 = K) : zlh row se R N K2 := by rw [e]; exact h
theorem zp_mono {so se : Nat → Int32} {N M : Int} (h : zp so se N) (e : M ≤ N) : zp so se M := fun j hj => h j (by omega)
