/-! ===== who rides, who is in, who is out: the second side ===== -/
theorem nar01 {x : Int32} {a : Int} (hx : x.toInt = a) (h0 : 0 ≤ a) (h1 : a ≤ 1) : (vp_nar .boolean x).toInt = a := by
  rcases (show a = 0 ∨ a = 1 by omega) with q | q
  · have e : x = 0 := Int32.toInt_inj.mp (hx.trans (by rw [q]; decide))
    rw [e, q]; rfl
  · have e : x = 1 := Int32.toInt_inj.mp (hx.trans (by rw [q]; decide))
    rw [e, q]; rfl
theorem cl_at {i : Int32} {a : Int} (hi : i.toInt = a) : Int32.toNatClampNeg i = a.toNat := by
  show i.toInt.toNat = _
  rw [hi]
def ZO (o : Nat → Int32) (R : Int) : Prop := ∃ r : Nat, (r : Int) < R ∧ (o r).toInt = 0
def ZA (o : Nat → Int32) : Prop := ∀ r : Nat, r < 20 → (o r).toInt = 0
theorem ZO_all {o : Nat → Int32} {R : Int} (h : ZA o) (hR : 0 < R) : ZO o R := ⟨0, by omega, h 0 (by omega)⟩
/-! the start of a run: who rides, and that all begin at metre 0 -/
def zi (ri ou me he se : Nat → Int32) (N : Int) : Prop := ∀ r : Nat, (r : Int) < N → ((ri r).toInt = 0 ∨ (ou r).toInt = 0) ∧ (me r).toInt = 0 ∧ (he r).toInt = 0 ∧ (se r).toInt = -1
def zy (ri ou : Nat → Int32) (a N : Int) : Prop := (¬ a = 0 ∧ ∃ r : Nat, (r : Int) < N ∧ ¬ (ri r).toInt = 0) ∨ (a = 0 ∧ ∀ r : Nat, (r : Int) < N → ¬ (ou r).toInt = 0)
theorem zi_zero {ri ou me he se : Nat → Int32} {N : Int} (h : N ≤ 0) : zi ri ou me he se N := fun r hr => by omega
theorem zy_zero {ri ou : Nat → Int32} {a N : Int} (h : N ≤ 0) (ha : a = 0) : zy ri ou a N := Or.inr ⟨ha, fun r hr => by omega⟩
theorem zi_ri {ri ou me he se : Nat → Int32} {N : Int} (h : zi ri ou me he se N) {i : Int32} (hi : i.toInt = N) (x : Int32) : zi (upd ri (Int32.toNatClampNeg i) x) ou me he se N := by
  intro r hr
  rw [cl_at hi, zu_ne ri x (show r ≠ N.toNat by omega)]
  exact h r hr
theorem zi_me {ri ou me he se : Nat → Int32} {N : Int} (h : zi ri ou me he se N) {i : Int32} (hi : i.toInt = N) (x : Int32) : zi ri ou (upd me (Int32.toNatClampNeg i) x) he se N := by
  intro r hr
  rw [cl_at hi, zu_ne me x (show r ≠ N.toNat by omega)]
  exact h r hr
theorem zi_he {ri ou me he se : Nat → Int32} {N : Int} (h : zi ri ou me he se N) {i : Int32} (hi : i.toInt = N) (x : Int32) : zi ri ou me (upd he (Int32.toNatClampNeg i) x) se N := by
  intro r hr
  rw [cl_at hi, zu_ne he x (show r ≠ N.toNat by omega)]
  exact h r hr
theorem zi_se {ri ou me he se : Nat → Int32} {N : Int} (h : zi ri ou me he se N) {i : Int32} (hi : i.toInt = N) (x : Int32) : zi ri ou me he (upd se (Int32.toNatClampNeg i) x) N := by
  intro r hr
  rw [cl_at hi, zu_ne se x (show r ≠ N.toNat by omega)]
  exact h r hr
theorem zi_suc {ri ou me he se : Nat → Int32} {N M : Int} (h : zi ri ou me he se N) {i : Int32} (hi : i.toInt = N) (h0 : 0 ≤ N) (h1 : (ri (Int32.toNatClampNeg i)).toInt = 0 ∨ (ou (Int32.toNatClampNeg i)).toInt = 0) (h2 : (me (Int32.toNatClampNeg i)).toInt = 0) (h3 : (he (Int32.toNatClampNeg i)).toInt = 0) (h4 : (se (Int32.toNatClampNeg i)).toInt = -1) (e : M = N + 1) : zi ri ou me he se M := by
  intro r hr
  rcases (show (r : Int) < N ∨ r = N.toNat by omega) with q | q
  · exact h r q
  · rw [cl_at hi] at h1 h2 h3 h4
    rw [q]
    exact ⟨h1, h2, h3, h4⟩
theorem zy_ri {ri ou : Nat → Int32} {a N : Int} (h : zy ri ou a N) {i : Int32} (hi : i.toInt = N) (x : Int32) : zy (upd ri (Int32.toNatClampNeg i) x) ou a N := by
  rcases h with ⟨h1, r, h2, h3⟩ | h
  · exact Or.inl ⟨h1, r, h2, by rw [cl_at hi, zu_ne ri x (show r ≠ N.toNat by omega)]; exact h3⟩
  · exact Or.inr h
theorem zy_suc {ri ou : Nat → Int32} {a b N M : Int} (h : zy ri ou a N) {i : Int32} (hi : i.toInt = N) (h0 : 0 ≤ N) (hb : (¬ a = 0 ∧ ¬ b = 0) ∨ (¬ (ri (Int32.toNatClampNeg i)).toInt = 0 ∧ ¬ b = 0) ∨ (a = 0 ∧ b = 0 ∧ ¬ (ou (Int32.toNatClampNeg i)).toInt = 0)) (e : M = N + 1) : zy ri ou b M := by
  rw [cl_at hi] at hb
  rcases hb with ⟨h1, h2⟩ | ⟨h1, h2⟩ | ⟨h1, h2, h3⟩
  · rcases h with ⟨_, r, h4, h5⟩ | ⟨h4, _⟩
    · exact Or.inl ⟨h2, r, by omega, h5⟩
    · exact absurd h4 h1
  · exact Or.inl ⟨h2, N.toNat, by omega, h1⟩
  · rcases h with ⟨h4, _⟩ | ⟨_, h5⟩
    · exact absurd h1 h4
    · refine Or.inr ⟨h2, fun r hr => ?_⟩
      rcases (show (r : Int) < N ∨ r = N.toNat by omega) with q | q
      · exact h5 r q
      · rw [q]; exact h3
/-! who is on the road: not too far behind the minutes, and short of the end -/
def jr (me he : Nat → Int32) (C E M : Int) (r : Nat) : Prop := 100 * M - 400 + 100 * (he r).toInt ≤ (me r).toInt ∧ (me r).toInt < E ∧ ((me r).toInt < C → 100 * M ≤ (me r).toInt ∧ (he r).toInt = 0)
def jA (me he se ri : Nat → Int32) (R C E M : Int) : Prop := ∀ r : Nat, (r : Int) < R → ¬ (ri r).toInt = 0 → (se r).toInt = -1 → jr me he C E M r
theorem jA_zero {ri ou me he se : Nat → Int32} {R N C E M : Int} (h : zi ri ou me he se N) (hR : R ≤ N) (hM : M = 0) (hE : 0 < E) : jA me he se ri R C E M := by
  intro r hr _ _
  obtain ⟨_, a, b, _⟩ := h r (by omega)
  unfold jr
  omega
/-! the row: those on the road that are not held, each once -/
def ZL (row ri se he : Nat → Int32) (I N : Int) : Prop := (∀ q : Nat, (q : Int) < N → 0 ≤ (row q).toInt ∧ (row q).toInt < I ∧ ¬ (ri (row q).toInt.toNat).toInt = 0 ∧ (se (row q).toInt.toNat).toInt = -1 ∧ (he (row q).toInt.toNat).toInt ≤ 0) ∧ (∀ q p : Nat, (q : Int) < N → (p : Int) < N → (row q).toInt = (row p).toInt → q = p) ∧ (∀ r : Nat, (r : Int) < I → ¬ (ri r).toInt = 0 → (se r).toInt = -1 → (he r).toInt ≤ 0 → ∃ q : Nat, (q : Int) < N ∧ (row q).toInt = (r : Int))
def ZH (row ri se he : Nat → Int32) (I N K : Int) : Prop := (∀ q : Nat, (q : Int) ≤ N → ¬ (q : Int) = K → 0 ≤ (row q).toInt ∧ (row q).toInt < I ∧ ¬ (ri (row q).toInt.toNat).toInt = 0 ∧ (se (row q).toInt.toNat).toInt = -1 ∧ (he (row q).toInt.toNat).toInt ≤ 0) ∧ (∀ q p : Nat, (q : Int) ≤ N → ¬ (q : Int) = K → (p : Int) ≤ N → ¬ (p : Int) = K → (row q).toInt = (row p).toInt → q = p) ∧ (∀ r : Nat, (r : Int) < I → ¬ (ri r).toInt = 0 → (se r).toInt = -1 → (he r).toInt ≤ 0 → ∃ q : Nat, (q : Int) ≤ N ∧ ¬ (q : Int) = K ∧ (row q).toInt = (r : Int))
theorem ZL_zero {row ri se he : Nat → Int32} {I N : Int} (h : N ≤ 0) (hI : I ≤ 0) : ZL row ri se he I N := ⟨fun q hq => by omega, fun q p hq => by omega, fun r hr => by omega⟩
theorem ZL_eq {row ri se he : Nat → Int32} {I N I2 N2 : Int} (h : ZL row ri se he I N) (e : N2 = N) (e2 : I2 = I) : ZL row ri se he I2 N2 := by rw [e, e2]; exact h
theorem ZH_eq {row ri se he : Nat → Int32} {I N K K2 : Int} (h : ZH row ri se he I N K) (e : K2 = K) : ZH row ri se he I N K2 := by rw [e]; exact h
theorem ZL_skip {row ri se he : Nat → Int32} {I N I2 N2 : Int} (h : ZL row ri se he I N) {i : Int32} (hi : i.toInt = I) (h0 : 0 ≤ I) (hn : (ri (Int32.toNatClampNeg i)).toInt = 0 ∨ ¬ (se (Int32.toNatClampNeg i)).toInt = -1 ∨ 0 < (he (Int32.toNatClampNeg i)).toInt) (e : I2 = I + 1) (e2 : N2 = N) : ZL row ri se he I2 N2 := by
  rw [e2]
  rw [cl_at hi] at hn
  refine ⟨fun q hq => ?_, h.2.1, fun r hr h1 h2 h3 => ?_⟩
  · obtain ⟨a, b, c⟩ := h.1 q hq
    exact ⟨a, by omega, c⟩
  · rcases (show (r : Int) < I ∨ r = I.toNat by omega) with q | q
    · exact h.2.2 r q h1 h2 h3
    · rw [q] at h1 h2 h3
      omega
theorem ZL_h {row ri se he : Nat → Int32} {I N K : Int} (h : ZL row ri se he I N) (e : K = N) : ZH row ri se he I N K := by
  refine ⟨fun q hq hk => h.1 q (by omega), fun q p a b c d => h.2.1 q p (by omega) (by omega), fun r hr h1 h2 h3 => ?_⟩
  obtain ⟨q, hq, e1⟩ := h.2.2 r hr h1 h2 h3
  exact ⟨q, by omega, by omega, e1⟩
theorem ZH_mv {row ri se he : Nat → Int32} {I N K K2 : Int} (h : ZH row ri se he I N K) (i i2 x : Int32) (hx : x = row (Int32.toNatClampNeg i2)) (hi : i.toInt = K) (hi2 : i2.toInt = K2) (e : K2 = K - 1) (h0 : 0 ≤ K2) (hN : K ≤ N) : ZH (upd row (Int32.toNatClampNeg i) x) ri se he I N K2 := by
  rw [cl_at hi]
  rw [cl_at hi2] at hx
  have hat : ∀ q : Nat, (q : Int) = K → upd row K.toNat x q = row K2.toNat := fun q hq => by
    rw [show q = K.toNat by omega, zu_at, hx]
  have hne : ∀ q : Nat, ¬ (q : Int) = K → upd row K.toNat x q = row q := fun q hq => zu_ne row x (by omega)
  refine ⟨fun q hq hk => ?_, fun q p a b c d => ?_, fun r hr h1 h2 h3 => ?_⟩
  · by_cases z : (q : Int) = K
    · rw [hat q z]
      exact h.1 K2.toNat (by omega) (by omega)
    · rw [hne q z]
      exact h.1 q hq z
  · by_cases z : (q : Int) = K
    · by_cases y : (p : Int) = K
      · intro _; omega
      · rw [hat q z, hne p y]
        intro g
        have := h.2.1 K2.toNat p (by omega) (by omega) c y g
        omega
    · by_cases y : (p : Int) = K
      · rw [hne q z, hat p y]
        intro g
        have := h.2.1 q K2.toNat a z (by omega) (by omega) g
        omega
      · rw [hne q z, hne p y]
        exact h.2.1 q p a z c y
  · obtain ⟨q, q1, q2, q3⟩ := h.2.2 r hr h1 h2 h3
    by_cases z : (q : Int) = K2
    · refine ⟨K.toNat, by omega, by omega, ?_⟩
      rw [hat K.toNat (by omega), show K2.toNat = q by omega]
      exact q3
    · exact ⟨q, q1, z, by rw [hne q q2]; exact q3⟩
theorem ZH_end {row ri se he : Nat → Int32} {I N K N2 I2 : Int} (h : ZH row ri se he I N K) (i r : Int32) (hr : r.toInt = I) (h0 : 0 ≤ I) (h1 : ¬ (ri (Int32.toNatClampNeg r)).toInt = 0) (h2 : (se (Int32.toNatClampNeg r)).toInt = -1) (h3 : (he (Int32.toNatClampNeg r)).toInt ≤ 0) (hi : i.toInt = K) (hK : 0 ≤ K) (hKN : K ≤ N) (e : N2 = N + 1) (e2 : I2 = I + 1) : ZL (upd row (Int32.toNatClampNeg i) r) ri se he I2 N2 := by
  rw [cl_at hi]
  rw [cl_at hr] at h1 h2 h3
  have hat : ∀ q : Nat, (q : Int) = K → (upd row K.toNat r q).toInt = I := fun q hq => by
    rw [show q = K.toNat by omega, zu_at, hr]
  have hne : ∀ q : Nat, ¬ (q : Int) = K → upd row K.toNat r q = row q := fun q hq => zu_ne row r (by omega)
  refine ⟨fun q hq => ?_, fun q p a b => ?_, fun r2 hr2 g1 g2 g3 => ?_⟩
  · by_cases z : (q : Int) = K
    · rw [hat q z]
      exact ⟨h0, by omega, h1, h2, h3⟩
    · rw [hne q z]
      obtain ⟨a1, a2, a3⟩ := h.1 q (by omega) z
      exact ⟨a1, by omega, a3⟩
  · by_cases z : (q : Int) = K
    · by_cases y : (p : Int) = K
      · intro _; omega
      · rw [hat q z, hne p y]
        intro g
        have := (h.1 p (by omega) y).2.1
        omega
    · by_cases y : (p : Int) = K
      · rw [hne q z, hat p y]
        intro g
        have := (h.1 q (by omega) z).2.1
        omega
      · rw [hne q z, hne p y]
        exact h.2.1 q p (by omega) z (by omega) y
  · rcases (show (r2 : Int) < I ∨ (r2 : Int) = I by omega) with z | z
    · obtain ⟨q, q1, q2, q3⟩ := h.2.2 r2 z g1 g2 g3
      exact ⟨q, by omega, by rw [hne q q2]; exact q3⟩
    · exact ⟨K.toNat, by omega, by rw [hat K.toNat (by omega)]; omega⟩
/-! where they stood -/
def zt (so me : Nat → Int32) (N : Int) : Prop := ∀ r : Nat, (r : Int) < N → (so r).toInt = (me r).toInt
theorem zt_zero {so me : Nat → Int32} {N : Int} (h : N ≤ 0) : zt so me N := fun r hr => by omega
theorem zt_mono {so me : Nat → Int32} {N M : Int} (h : zt so me N) (e : M ≤ N) : zt so me M := fun r hr => h r (by omega)
theorem zt_st {so me : Nat → Int32} {N M : Int} (h : zt so me N) (i x : Int32) (hx : x = me (Int32.toNatClampNeg i)) (hi : i.toInt = N) (h0 : 0 ≤ N) (e : M = N + 1) : zt (upd so (Int32.toNatClampNeg i) x) me M := by
  rw [cl_at hi] at hx ⊢
  intro r hr
  rcases (show (r : Int) < N ∨ r = N.toNat by omega) with q | q
  · rw [zu_ne so x (show r ≠ N.toNat by omega)]
    exact h r q
  · rw [q, zu_at, hx]
/-! a minute less of being held -/
def zd (h0 h : Nat → Int32) (N : Int) : Prop := (∀ r : Nat, (r : Int) < N → (0 < (h0 r).toInt ∧ (h r).toInt = (h0 r).toInt - 1) ∨ ((h0 r).toInt ≤ 0 ∧ (h r).toInt = (h0 r).toInt)) ∧ (∀ r : Nat, N ≤ (r : Int) → h r = h0 r)
theorem zd_zero {h : Nat → Int32} {N : Int} (e : N ≤ 0) : zd h h N := ⟨fun r hr => by omega, fun _ _ => rfl⟩
theorem zd_eq {h0 h : Nat → Int32} {N M : Int} (z : zd h0 h N) (e : M = N) : zd h0 h M := by rw [e]; exact z
theorem zd_st {h0 h : Nat → Int32} {N M : Int} (z : zd h0 h N) (i x v : Int32) (hv : v = h (Int32.toNatClampNeg i)) (hi : i.toInt = N) (hN : 0 ≤ N) {b : Int} (hx : x.toInt = b) (hb : (0 < v.toInt ∧ b = v.toInt - 1) ∨ (v.toInt ≤ 0 ∧ b = v.toInt)) (e : M = N + 1) : zd h0 (upd h (Int32.toNatClampNeg i) x) M := by
  rw [cl_at hi] at hv ⊢
  have hs : h N.toNat = h0 N.toNat := z.2 N.toNat (by omega)
  refine ⟨fun r hr => ?_, fun r hr => ?_⟩
  · rcases (show (r : Int) < N ∨ r = N.toNat by omega) with q | q
    · rw [zu_ne h x (show r ≠ N.toNat by omega)]
      exact z.1 r q
    · rw [q, zu_at, hx, ← hs, ← hv]
      exact hb
  · rw [zu_ne h x (show r ≠ N.toNat by omega)]
    exact z.2 r (by omega)
/-! a minute's rides: who has ridden is well, who has not is still in the row -/
def js (so : Nat → Int32) (C E M : Int) (r : Nat) : Prop := 100 * (M - 1) - 400 ≤ (so r).toInt ∧ (so r).toInt < E ∧ ((so r).toInt < C → 100 * (M - 1) ≤ (so r).toInt)
def zK (me he se ri row so : Nat → Int32) (R C E M N K : Int) : Prop := (∀ q : Nat, (q : Int) < N → 0 ≤ (row q).toInt ∧ (row q).toInt < R ∧ js so C E M (row q).toInt.toNat) ∧ (∀ q p : Nat, (q : Int) < N → (p : Int) < N → (row q).toInt = (row p).toInt → q = p) ∧ (∀ q : Nat, K ≤ (q : Int) → (q : Int) < N → (he (row q).toInt.toNat).toInt = 0) ∧ (∀ r : Nat, (r : Int) < R → ¬ (ri r).toInt = 0 → (se r).toInt = -1 → jr me he C E M r ∨ ∃ q : Nat, K ≤ (q : Int) ∧ (q : Int) < N ∧ (row q).toInt = (r : Int))
theorem zK_start {me he0 he se ri row so : Nat → Int32} {R C E M M0 N K : Int} (hj : jA me he0 se ri R C E M0) (hl : ZL row ri se he0 R N) (ht : zt so me R) (hd : zd he0 he R) (hr : zr he0 20 0 3) (hR : R ≤ 20) (eM : M = M0 + 1) (eK : K = 0) : zK me he se ri row so R C E M N K := by
  refine ⟨fun q hq => ?_, hl.2.1, fun q _ hq => ?_, fun r hr1 h1 h2 => ?_⟩
  · obtain ⟨a, b, c, d, f⟩ := hl.1 q hq
    have g := hj (row q).toInt.toNat (by omega) c d
    have t := ht (row q).toInt.toNat (by omega)
    have z := hr (row q).toInt.toNat (by omega)
    refine ⟨a, b, ?_⟩
    unfold jr at g
    unfold js
    omega
  · obtain ⟨a, b, c, d, f⟩ := hl.1 q hq
    have z := hr (row q).toInt.toNat (by omega)
    have y := hd.1 (row q).toInt.toNat (by omega)
    omega
  · have g := hj r hr1 h1 h2
    have z := hr r (by omega)
    have y := hd.1 r hr1
    by_cases w : (he0 r).toInt ≤ 0
    · obtain ⟨q, q1, q2⟩ := hl.2.2 r hr1 h1 h2 w
      exact Or.inr ⟨q, by omega, q1, q2⟩
    · refine Or.inl ?_
      unfold jr at g ⊢
      omega
def RF (me he se me' he' se' so : Nat → Int32) (C E : Int) (r : Nat) : Prop := (∀ j : Nat, ¬ j = r → me' j = me j ∧ he' j = he j ∧ se' j = se j) ∧ (¬ (se' r).toInt = -1 ∨ ((se' r).toInt = (se r).toInt ∧ (me' r).toInt = C ∧ (he' r).toInt = 3 ∧ (so r).toInt < C ∧ C < E) ∨ ((se' r).toInt = (se r).toInt ∧ (so r).toInt + 100 ≤ (me' r).toInt ∧ (me' r).toInt < E ∧ (he' r).toInt = (he r).toInt))
theorem zK_step {me he se me' he' se' ri row so : Nat → Int32} {R C E M N K K2 : Int} (h : zK me he se ri row so R C E M N K) (x i : Int32) (hx : x = row (Int32.toNatClampNeg i)) (hi : i.toInt = K) (h0 : 0 ≤ K) (hN : K < N) (hf : RF me he se me' he' se' so C E (Int32.toNatClampNeg x)) (e : K2 = K + 1) : zK me' he' se' ri row so R C E M N K2 := by
  rw [cl_at hi] at hx
  have ex : Int32.toNatClampNeg x = (row K.toNat).toInt.toNat := by
    show x.toInt.toNat = _
    rw [hx]
  rw [ex] at hf
  obtain ⟨f1, f2⟩ := hf
  have m := h.1 K.toNat (by omega)
  have hh := h.2.2.1 K.toNat (by omega) (by omega)
  refine ⟨h.1, h.2.1, fun q a b => ?_, fun r hr h1 h2 => ?_⟩
  · have m2 := h.1 q b
    have ne : ¬ (row q).toInt.toNat = (row K.toNat).toInt.toNat := fun w => by
      have := h.2.1 q K.toNat b (by omega) (by omega)
      omega
    rw [(f1 _ ne).2.1]
    exact h.2.2.1 q (by omega) b
  · by_cases w : r = (row K.toNat).toInt.toNat
    · refine Or.inl ?_
      rw [w] at h2 ⊢
      have j := m.2.2
      unfold js at j
      unfold jr
      omega
    · obtain ⟨g1, g2, g3⟩ := f1 r w
      rw [g3] at h2
      rcases h.2.2.2 r hr h1 h2 with v | ⟨q, q1, q2, q3⟩
      · refine Or.inl ?_
        unfold jr at v ⊢
        rw [g1, g2]
        exact v
      · refine Or.inr ⟨q, ?_, q2, q3⟩
        rcases (show (q : Int) = K ∨ K2 ≤ (q : Int) by omega) with u | u
        · exfalso
          rw [show q = K.toNat by omega] at q3
          omega
        · exact u
theorem zK_end {me he se ri row so : Nat → Int32} {R C E M M2 N K : Int} (h : zK me he se ri row so R C E M N K) (e : N ≤ K) (eM : M2 = M) : jA me he se ri R C E M2 := by
  rw [eM]
  intro r hr h1 h2
  rcases h.2.2.2 r hr h1 h2 with v | ⟨q, q1, q2, q3⟩
  · exact v
  · omega
theorem zK_k {me he se ri row so : Nat → Int32} {R C E M N K K2 : Int} (h : zK me he se ri row so R C E M N K) (e : K2 = K) : zK me he se ri row so R C E M N K2 := by rw [e]; exact h
theorem zK_so {me he se ri row so : Nat → Int32} {R C E M N K : Int} (h : zK me he se ri row so R C E M N K) (x i : Int32) (hx : x = row (Int32.toNatClampNeg i)) {a : Int} (hi : i.toInt = a) (h0 : 0 ≤ a) (hN : a < N) : (so (Int32.toNatClampNeg x)).toInt < E := by
  rw [cl_at hi] at hx
  have ex : Int32.toNatClampNeg x = (row a.toNat).toInt.toNat := by
    show x.toInt.toNat = _
    rw [hx]
  rw [ex]
  exact (h.1 a.toNat (by omega)).2.2.2.1
/-! the end of a run: all who rode are in -/
def ZI (ri se : Nat → Int32) (R : Int) : Prop := ∀ r : Nat, (r : Int) < R → ¬ (ri r).toInt = 0 → ¬ (se r).toInt = -1
theorem ZI_400 {me he se ri : Nat → Int32} {R C E M : Int} (h : jA me he se ri R C E M) (hr : zr he 20 0 3) (hR : R ≤ 20) (hM : 400 ≤ M) (hE : E ≤ 30000) : ZI ri se R := by
  intro r h1 h2 h3
  have j := h r h1 h2 h3
  have z := hr r (by omega)
  unfold jr at j
  omega
theorem ZI_zero {ri se : Nat → Int32} {R : Int} (h : R ≤ 0) : ZI ri se R := fun r hr => by omega
theorem ZI_mono {ri se : Nat → Int32} {R S : Int} (h : ZI ri se R) (e : S ≤ R) : ZI ri se S := fun r hr => h r (by omega)
theorem ZI_suc {ri se : Nat → Int32} {N M : Int} (h : ZI ri se N) (i : Int32) (hi : i.toInt = N) (h0 : 0 ≤ N) (hn : (ri (Int32.toNatClampNeg i)).toInt = 0 ∨ ¬ (se (Int32.toNatClampNeg i)).toInt = -1) (e : M = N + 1) : ZI ri se M := by
  rw [cl_at hi] at hn
  intro r hr h1
  rcases (show (r : Int) < N ∨ r = N.toNat by omega) with q | q
  · exact h r q h1
  · rw [q] at h1 ⊢
    omega
def ZRo (ri ou : Nat → Int32) (R : Int) : Prop := ∀ r : Nat, (r : Int) < R → ¬ (ri r).toInt = 0 → (ou r).toInt = 0
theorem ZRo_of {ri ou me he se : Nat → Int32} {R N : Int} (h : zi ri ou me he se N) (hR : R ≤ N) : ZRo ri ou R := by
  intro r hr h1
  obtain ⟨a, _⟩ := h r (by omega)
  omega
def RUN1 (ri ou se : Nat → Int32) (R : Int) : Prop := (∃ r : Nat, (r : Int) < R ∧ ¬ (ri r).toInt = 0) ∧ ZRo ri ou R ∧ ZI ri se R
def ZN (o : Nat → Int32) (R : Int) : Prop := ∀ r : Nat, (r : Int) < R → ¬ (o r).toInt = 0
theorem ZN_not {o : Nat → Int32} {R : Int} (h : ZN o R) : ¬ ZO o R := fun ⟨r, a, b⟩ => h r a b
theorem RUN1_ZO {ri ou se : Nat → Int32} {R : Int} (h : RUN1 ri ou se R) : ZO ou R := by
  obtain ⟨⟨r, a, b⟩, c, _⟩ := h
  exact ⟨r, a, c r a b⟩
/-! the first of those who are in -/
def zMN (ri se : Nat → Int32) (R : Int) (r : Nat) : Prop := (r : Int) < R ∧ ¬ (ri r).toInt = 0 ∧ ¬ (se r).toInt = -1 ∧ ∀ q : Nat, (q : Int) < R → ¬ q = r → ¬ (ri q).toInt = 0 → ¬ (se q).toInt = -1 → ¬ ((se q).toInt < (se r).toInt ∨ ((se q).toInt = (se r).toInt ∧ (q : Int) < (r : Int)))
theorem zMN_ex {ri se : Nat → Int32} : ∀ (R : Nat), (∃ r : Nat, r < R ∧ ¬ (ri r).toInt = 0 ∧ ¬ (se r).toInt = -1) → ∃ r : Nat, zMN ri se (R : Int) r
  | 0, h => by
    obtain ⟨r, a, _⟩ := h
    omega
  | R + 1, h => by
    by_cases p : ¬ (ri R).toInt = 0 ∧ ¬ (se R).toInt = -1
    · by_cases w : ∃ r : Nat, r < R ∧ ¬ (ri r).toInt = 0 ∧ ¬ (se r).toInt = -1
      · obtain ⟨m, m1, m2, m3, m4⟩ := zMN_ex R w
        by_cases c : (se R).toInt < (se m).toInt
        · refine ⟨R, by omega, p.1, p.2, fun q hq ne q1 q2 => ?_⟩
          by_cases d : q = m
          · rw [d]; omega
          · have := m4 q (by omega) d q1 q2
            omega
        · refine ⟨m, by omega, m2, m3, fun q hq ne q1 q2 => ?_⟩
          by_cases d : q = R
          · rw [d]; omega
          · exact m4 q (by omega) ne q1 q2
      · exact ⟨R, by omega, p.1, p.2, fun q hq ne q1 q2 => absurd ⟨q, by omega, q1, q2⟩ w⟩
    · obtain ⟨r, r1, r2, r3⟩ := h
      have ne : ¬ r = R := fun e => p (by rw [← e]; exact ⟨r2, r3⟩)
      obtain ⟨m, m1, m2, m3, m4⟩ := zMN_ex R ⟨r, by omega, r2, r3⟩
      refine ⟨m, by omega, m2, m3, fun q hq ne2 q1 q2 => ?_⟩
      by_cases d : q = R
      · exact absurd (by rw [← d]; exact ⟨q1, q2⟩) p
      · exact m4 q (by omega) ne2 q1 q2
theorem zMN_run {ri ou se : Nat → Int32} {R : Int} (h : RUN1 ri ou se R) (h0 : 0 ≤ R) : ∃ r : Nat, zMN ri se R r := by
  obtain ⟨⟨r, a, b⟩, _, c⟩ := h
  have g := zMN_ex (ri := ri) (se := se) R.toNat ⟨r, by omega, b, c r a b⟩
  rw [show ((R.toNat : Nat) : Int) = R by omega] at g
  exact g
theorem zMN_not {ri se : Nat → Int32} {R : Int} {x y : Int32} (h : zMN ri se R (Int32.toNatClampNeg y)) {a b : Int} (hx : x.toInt = a) (hy : y.toInt = b) (h0 : 0 ≤ a) (h1 : a < R) (h2 : 0 ≤ b) (hne : ¬ a = b) (r1 : ¬ (ri (Int32.toNatClampNeg x)).toInt = 0) (r2 : ¬ (se (Int32.toNatClampNeg x)).toInt = -1) (hb : (se (Int32.toNatClampNeg x)).toInt < (se (Int32.toNatClampNeg y)).toInt ∨ ((se (Int32.toNatClampNeg x)).toInt = (se (Int32.toNatClampNeg y)).toInt ∧ a < b)) : False := by
  rw [cl_at hx, cl_at hy] at hb
  rw [cl_at hx] at r1 r2
  rw [cl_at hy] at h
  refine h.2.2.2 a.toNat (by omega) (by omega) r1 r2 ?_
  omega
/-! the row that is told -/
def RK (dr tl ou : Nat → Int32) (R : Int) : Prop := (∃ r : Nat, (r : Int) < R ∧ r < 20 ∧ ¬ (dr r).toInt = 0 ∧ (tl (8 * r + 2)).toInt = 1) ∧ (∀ r : Nat, r < 20 → ¬ (dr r).toInt = 0 → (r : Int) < R ∧ (ou r).toInt = 0 ∧ 0 ≤ (tl (8 * r + 1)).toInt ∧ (tl (8 * r + 1)).toInt ≤ 2000000)
theorem RK_mono {dr tl ou : Nat → Int32} {R S : Int} (h : RK dr tl ou R) (e : R ≤ S) : RK dr tl ou S := by
  obtain ⟨⟨r, a, b⟩, c⟩ := h
  refine ⟨⟨r, by omega, b⟩, fun r h1 h2 => ?_⟩
  obtain ⟨d1, d2⟩ := c r h1 h2
  exact ⟨by omega, d2⟩
def zw (dr tl ri se : Nat → Int32) (R N : Int) : Prop := ∀ r : Nat, (r : Int) < N → (dr r).toInt = (ri r).toInt ∧ (tl (8 * r + 1)).toInt = (se r).toInt ∧ (zMN ri se R r → (tl (8 * r + 2)).toInt = 1)
def zx (dr tl ri se : Nat → Int32) (R N k : Int) : Prop := zw dr tl ri se R N ∧ (1 ≤ k → (dr N.toNat).toInt = (ri N.toNat).toInt) ∧ (2 ≤ k → (tl (8 * N.toNat + 1)).toInt = (se N.toNat).toInt) ∧ (3 ≤ k → zMN ri se R N.toNat → (tl (8 * N.toNat + 2)).toInt = 1)
theorem zw_zero {dr tl ri se : Nat → Int32} {R N : Int} (h : N ≤ 0) : zw dr tl ri se R N := fun r hr => by omega
theorem zx_1 {dr tl ri se : Nat → Int32} {R N : Int} (h : zw dr tl ri se R N) (i x : Int32) (hi : i.toInt = N) (h0 : 0 ≤ N) (hx : x.toInt = (ri (Int32.toNatClampNeg i)).toInt) : zx (upd dr (Int32.toNatClampNeg i) x) tl ri se R N 1 := by
  rw [cl_at hi] at hx ⊢
  refine ⟨fun r hr => ?_, fun _ => by rw [zu_at]; exact hx, fun q => by omega, fun q => by omega⟩
  rw [zu_ne dr x (show r ≠ N.toNat by omega)]
  exact h r hr
theorem zx_t {dr tl ri se : Nat → Int32} {R N k : Int} (h : zx dr tl ri se R N k) (i x : Int32) {a : Int} (hi : i.toInt = a) (h0 : 0 ≤ N) (j : Int) (ha : a = 8 * N + j) (hj : j = 0 ∨ (3 ≤ j ∧ j ≤ 7)) : zx dr (upd tl (Int32.toNatClampNeg i) x) ri se R N k := by
  rw [cl_at hi]
  obtain ⟨h1, h2, h3, h4⟩ := h
  refine ⟨fun r hr => ?_, h2, fun q => ?_, fun q g => ?_⟩
  · rw [zu_ne tl x (show 8 * r + 1 ≠ a.toNat by omega), zu_ne tl x (show 8 * r + 2 ≠ a.toNat by omega)]
    exact h1 r hr
  · rw [zu_ne tl x (show 8 * N.toNat + 1 ≠ a.toNat by omega)]
    exact h3 q
  · rw [zu_ne tl x (show 8 * N.toNat + 2 ≠ a.toNat by omega)]
    exact h4 q g
theorem zx_2 {dr tl ri se : Nat → Int32} {R N : Int} (h : zx dr tl ri se R N 1) (i x r0 : Int32) {a : Int} (hi : i.toInt = a) (h0 : 0 ≤ N) (ha : a = 8 * N + 1) (hr : r0.toInt = N) (hx : x.toInt = (se (Int32.toNatClampNeg r0)).toInt) : zx dr (upd tl (Int32.toNatClampNeg i) x) ri se R N 2 := by
  rw [cl_at hi]
  rw [cl_at hr] at hx
  obtain ⟨h1, h2, h3, h4⟩ := h
  refine ⟨fun r hr => ?_, fun _ => h2 (by omega), fun q => ?_, fun q => by omega⟩
  · rw [zu_ne tl x (show 8 * r + 1 ≠ a.toNat by omega), zu_ne tl x (show 8 * r + 2 ≠ a.toNat by omega)]
    exact h1 r hr
  · rw [show 8 * N.toNat + 1 = a.toNat by omega, zu_at]
    exact hx
theorem zx_3 {dr tl ri se : Nat → Int32} {R N : Int} (h : zx dr tl ri se R N 2) (i x r0 : Int32) {a : Int} (hi : i.toInt = a) (h0 : 0 ≤ N) (ha : a = 8 * N + 2) (hr : r0.toInt = N) (hx : zMN ri se R (Int32.toNatClampNeg r0) → x.toInt = 1) : zx dr (upd tl (Int32.toNatClampNeg i) x) ri se R N 3 := by
  rw [cl_at hi]
  rw [cl_at hr] at hx
  obtain ⟨h1, h2, h3, h4⟩ := h
  refine ⟨fun r hr => ?_, fun _ => h2 (by omega), fun q => ?_, fun q g => ?_⟩
  · rw [zu_ne tl x (show 8 * r + 1 ≠ a.toNat by omega), zu_ne tl x (show 8 * r + 2 ≠ a.toNat by omega)]
    exact h1 r hr
  · rw [zu_ne tl x (show 8 * N.toNat + 1 ≠ a.toNat by omega)]
    exact h3 (by omega)
  · rw [show 8 * N.toNat + 2 = a.toNat by omega, zu_at]
    exact hx g
theorem zx_end {dr tl ri se : Nat → Int32} {R N M : Int} (h : zx dr tl ri se R N 3) (h0 : 0 ≤ N) (e : M = N + 1) : zw dr tl ri se R M := by
  obtain ⟨h1, h2, h3, h4⟩ := h
  intro r hr
  rcases (show (r : Int) < N ∨ r = N.toNat by omega) with q | q
  · exact h1 r q
  · rw [q]
    exact ⟨h2 (by omega), h3 (by omega), h4 (by omega)⟩
def zv (dr tl ri se : Nat → Int32) (R N : Int) : Prop := zw dr tl ri se R R ∧ ∀ r : Nat, R ≤ (r : Int) → (r : Int) < N → (dr r).toInt = 0
theorem zv_zero {dr tl ri se : Nat → Int32} {R N M : Int} (h : zw dr tl ri se R M) (e : R ≤ M) (e2 : N ≤ R) : zv dr tl ri se R N := ⟨fun r hr => h r (by omega), fun r h1 h2 => by omega⟩
theorem zv_st {dr tl ri se : Nat → Int32} {R N M : Int} (h : zv dr tl ri se R N) (i x : Int32) (hi : i.toInt = N) (h0 : 0 ≤ N) (hR : R ≤ N) (hx : x.toInt = 0) (e : M = N + 1) : zv (upd dr (Int32.toNatClampNeg i) x) tl ri se R M := by
  rw [cl_at hi]
  refine ⟨fun r hr => ?_, fun r h1 h2 => ?_⟩
  · rw [zu_ne dr x (show r ≠ N.toNat by omega)]
    exact h.1 r hr
  · rcases (show (r : Int) < N ∨ r = N.toNat by omega) with q | q
    · rw [zu_ne dr x (show r ≠ N.toNat by omega)]
      exact h.2 r h1 q
    · rw [q, zu_at]
      exact hx
theorem zv_eq {dr tl ri se : Nat → Int32} {R N M : Int} (h : zv dr tl ri se R N) (e : M = N) : zv dr tl ri se R M := by rw [e]; exact h
theorem RK_of {dr tl ri se ou : Nat → Int32} {R N : Int} (h : zv dr tl ri se R N) (hN : 20 ≤ N) (hu : RUN1 ri ou se R) (h0 : 0 ≤ R) (hR : R ≤ 20) (hs : zr se 20 (-1) 2000000) : RK dr tl ou R := by
  obtain ⟨m, m1, m2, m3, m4⟩ := zMN_run hu h0
  obtain ⟨_, u2, u3⟩ := hu
  refine ⟨⟨m, m1, by omega, ?_, (h.1 m m1).2.2 ⟨m1, m2, m3, m4⟩⟩, fun r h1 h2 => ?_⟩
  · rw [(h.1 m m1).1]
    exact m2
  · rcases (show (r : Int) < R ∨ R ≤ (r : Int) by omega) with q | q
    · obtain ⟨a, b, _⟩ := h.1 r q
      rw [a] at h2
      have s := u3 r q h2
      have t := hs r h1
      exact ⟨q, u2 r q h2, by omega, by omega⟩
    · exact absurd (h.2 r q (by omega)) h2
/-! a keep: the winner stays -/
def zW (dr tl : Nat → Int32) (w N : Int) : Prop := (∃ r : Nat, (r : Int) < N ∧ r < 20 ∧ ¬ (dr r).toInt = 0 ∧ w = (tl (8 * r + 1)).toInt) ∨ (∀ r : Nat, (r : Int) < N → ¬ (¬ (dr r).toInt = 0 ∧ (tl (8 * r + 2)).toInt = 1))
theorem zW_zero {dr tl : Nat → Int32} {w N : Int} (h : N ≤ 0) : zW dr tl w N := Or.inr (fun r hr => by omega)
theorem zW_skip {dr tl : Nat → Int32} {w w2 N M : Int} (h : zW dr tl w N) (i : Int32) (hi : i.toInt = N) (h0 : 0 ≤ N) (hn : (dr (Int32.toNatClampNeg i)).toInt = 0 ∨ ¬ (tl (8 * Int32.toNatClampNeg i + 2)).toInt = 1) (e : M = N + 1) (e2 : w2 = w) : zW dr tl w2 M := by
  rw [e2]
  rw [cl_at hi] at hn
  rcases h with ⟨r, a, b⟩ | h
  · exact Or.inl ⟨r, by omega, b⟩
  · refine Or.inr (fun r hr => ?_)
    rcases (show (r : Int) < N ∨ r = N.toNat by omega) with q | q
    · exact h r q
    · rw [q]
      intro g
      rcases hn with z | z
      · exact g.1 z
      · exact z g.2
theorem zW_set {dr tl : Nat → Int32} {w N M : Int} (i : Int32) (hi : i.toInt = N) (h0 : 0 ≤ N) (h20 : N < 20) (hn : ¬ (dr (Int32.toNatClampNeg i)).toInt = 0) (hw : w = (tl (8 * Int32.toNatClampNeg i + 1)).toInt) (e : M = N + 1) : zW dr tl w M := by
  rw [cl_at hi] at hn hw
  exact Or.inl ⟨N.toNat, by omega, by omega, hn, hw⟩
theorem tl_ld {tl : Nat → Int32} {x i v : Int32} {a b j : Int} (e : v = tl (Int32.toNatClampNeg x)) (hx : x.toInt = a) (hi : i.toInt = b) (h0 : 0 ≤ b) (k : Nat) (hj : j = (k : Int)) (ha : a = 8 * b + j) : v.toInt = (tl (8 * Int32.toNatClampNeg i + k)).toInt := by
  rw [e, cl_at hx, cl_at hi, show a.toNat = 8 * b.toNat + k by omega]
theorem zW_get {dr tl ou : Nat → Int32} {w R N : Int} (h : zW dr tl w N) (hk : RK dr tl ou R) (e : R ≤ N) : ∃ r : Nat, r < 20 ∧ (r : Int) < R ∧ (ou r).toInt = 0 ∧ w = (tl (8 * r + 1)).toInt ∧ 0 ≤ w ∧ w ≤ 2000000 := by
  obtain ⟨⟨m, m1, m2, m3, m4⟩, k2⟩ := hk
  rcases h with ⟨r, a, b, c, d⟩ | h
  · obtain ⟨g1, g2, g3, g4⟩ := k2 r b c
    exact ⟨r, b, g1, g2, d, by omega, by omega⟩
  · exact absurd ⟨m3, m4⟩ (h m (by omega))
theorem RK_s {dr tl ou : Nat → Int32} {R : Int} (hk : RK dr tl ou R) (i : Int32) {a : Int} (hi : i.toInt = a) (h0 : 0 ≤ a) (h1 : a < 20) (hd : ¬ (dr (Int32.toNatClampNeg i)).toInt = 0) : 0 ≤ (tl (8 * Int32.toNatClampNeg i + 1)).toInt ∧ (tl (8 * Int32.toNatClampNeg i + 1)).toInt ≤ 2000000 := by
  rw [cl_at hi] at hd ⊢
  exact (hk.2 a.toNat (by omega) hd).2.2
theorem ou_ne {ou : Nat → Int32} {r : Nat} (h : (ou r).toInt = 0) (i x : Int32) {a : Int} (hi : i.toInt = a) (h0 : 0 ≤ a) (hx : ¬ a = (r : Int) ∨ x.toInt = 0) : ((upd ou (Int32.toNatClampNeg i) x) r).toInt = 0 := by
  rw [cl_at hi]
  by_cases q : r = a.toNat
  · rw [q, zu_at]
    rcases hx with z | z
    · omega
    · exact z
  · rw [zu_ne ou x q]
    exact h
theorem cl_r {i : Int32} {a : Int} (hi : i.toInt = a) {r : Nat} (e : a = (r : Int)) : Int32.toNatClampNeg i = r := by
  rw [cl_at hi]
  omega
theorem zz_mulG {x y : Int32} {a b : Int} (hx : x.toInt = a) (hy : y.toInt = b) (h1 : 100 ≤ a) (h2 : a ≤ 200) (h3 : 0 ≤ b) (h4 : b ≤ 2000000) : 100 * b ≤ (x * y).toInt := by
  have l : 100 * b ≤ a * b := Int.mul_le_mul_of_nonneg_right h1 h3
  have u : a * b ≤ 200 * b := Int.mul_le_mul_of_nonneg_right h2 h3
  rw [zz_mulI hx hy (by omega) (by omega)]
  exact l
theorem zy_no {ri ou : Nat → Int32} {a N R : Int} (h : zy ri ou a N) (ha : a = 0) (hR : R ≤ N) : ZN ou R := by
  rcases h with ⟨h1, _⟩ | ⟨_, h2⟩
  · exact absurd ha h1
  · exact fun r hr => h2 r (by omega)
theorem zy_ex {ri ou : Nat → Int32} {a N R : Int} (h : zy ri ou a N) (ha : ¬ a = 0) (hR : N ≤ R) : ∃ r : Nat, (r : Int) < R ∧ ¬ (ri r).toInt = 0 := by
  rcases h with ⟨_, r, h1, h2⟩ | ⟨h1, _⟩
  · exact ⟨r, by omega, h2⟩
  · exact absurd h1 ha
/-! between the calls -/
theorem lz_rider {o : Nat → Int32} {S R R' : Int} (hzo : R = 0 ∨ ZO o R) (hzc : ¬ S = 0 ∨ ZA o) (h : (S = 0 ∧ R' = R + 1) ∨ R' = R) (h0 : 0 ≤ R) : R' = 0 ∨ ZO o R' := by
  rcases h with ⟨h1, h2⟩ | h
  · rcases hzc with z | z
    · exact absurd h1 z
    · exact Or.inr (ZO_all z (by omega))
  · rw [h]; exact hzo
theorem lz_race {d t o d' t' : Nat → Int32} {R a b a' b' : Int} (F : (ZO o R ∧ a' = 1 ∧ b' = 0 ∧ RK d' t' o R) ∨ (¬ ZO o R ∧ a' = a ∧ b' = b)) (hzo : R = 0 ∨ ZO o R) : (R = 0 ∧ a' = a ∧ b' = b) ∨ (¬ R = 0 ∧ a' = 1 ∧ b' = 0) := by
  rcases F with ⟨⟨r, f1, f2⟩, f3, f4, f5⟩ | ⟨f1, f2, f3⟩
  · exact Or.inr ⟨by omega, f3, f4⟩
  · rcases hzo with z | z
    · exact Or.inl ⟨z, f2, f3⟩
    · exact absurd z f1
theorem lz_rk {d t o d' t' : Nat → Int32} {R a b a' b' : Int} (F : (ZO o R ∧ a' = 1 ∧ b' = 0 ∧ RK d' t' o R) ∨ (¬ ZO o R ∧ a' = a ∧ b' = b)) (hzo : R = 0 ∨ ZO o R) (h0 : 0 ≤ R) (hrk : a = 0 ∨ ¬ b = 0 ∨ RK d t o R) : a' = 0 ∨ ¬ b' = 0 ∨ RK d' t' o R := by
  rcases F with ⟨_, _, _, f⟩ | ⟨f1, f2, f3⟩
  · exact Or.inr (Or.inr f)
  · rcases hzo with z | z
    · rcases hrk with y | y | ⟨⟨r, y, _⟩, _⟩
      · exact Or.inl (by omega)
      · exact Or.inr (Or.inl (by omega))
      · omega
    · exact absurd z f1
theorem lz_rkm {d t o : Nat → Int32} {R R' a b a' b' : Int} (hrk : a = 0 ∨ ¬ b = 0 ∨ RK d t o R) (e : R ≤ R') (ea : a' = a) (eb : b' = b) : a' = 0 ∨ ¬ b' = 0 ∨ RK d t o R' := by
  rw [ea, eb]
  rcases hrk with z | z | z
  · exact Or.inl z
  · exact Or.inr (Or.inl z)
  · exact Or.inr (Or.inr (RK_mono z e))
def KF (f g : Nat → Int32) (R : Int) (P : Prop) : Prop := (P ∧ ZO g R) ∨ (¬ P ∧ g = f)
theorem lz_kzo {f g : Nat → Int32} {R : Int} {P : Prop} (F : KF f g R P) (hzo : R = 0 ∨ ZO f R) : R = 0 ∨ ZO g R := by
  rcases F with ⟨_, z⟩ | ⟨_, z⟩
  · exact Or.inr z
  · rw [z]; exact hzo
theorem lz_kzc {f g : Nat → Int32} {R S S' : Int} {P : Prop} (F : KF f g R P) (hzc : ¬ S = 0 ∨ ZA f) (h1 : P → ¬ S' = 0) (h2 : ¬ P → S' = S) : ¬ S' = 0 ∨ ZA g := by
  rcases F with ⟨z, _⟩ | ⟨y, z⟩
  · exact Or.inl (h1 z)
  · rw [z, h2 y]; exact hzc
theorem lz_krk {d t f g : Nat → Int32} {R a b a' b' : Int} {P : Prop} (F : KF f g R P) (hrk : a = 0 ∨ ¬ b = 0 ∨ RK d t f R) (h1 : P → ¬ b' = 0) (h2 : ¬ P → a' = a ∧ b' = b) : a' = 0 ∨ ¬ b' = 0 ∨ RK d t g R := by
  rcases F with ⟨z, _⟩ | ⟨y, z⟩
  · exact Or.inr (Or.inl (h1 z))
  · obtain ⟨e1, e2⟩ := h2 y
    rw [z, e1, e2]; exact hrk
