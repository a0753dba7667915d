/-! ===== the tape: what a feed writes ===== -/
def zTG (f f' : Nat → Int32) (n : Int) (g c : Nat → Nat) (k : Nat) : Prop := (∀ j : Nat, (j : Int) < n → f' j = f j) ∧ (∀ i : Nat, i < k → ¬ g i = 0 → (f' (n.toNat + c i)).toInt = ((g i : Nat) : Int))
def zCN (g c : Nat → Nat) : Prop := ∀ j, c (j + 1) = c j + (if g j = 0 then 0 else 1)
theorem zCN_bc (w : Int32) : zCN (bz w) (bc w) := fun _ => rfl
theorem zCN_bc20 (a b c d e : Int32) : zCN (bz20 a b c d e) (bc20 a b c d e) := fun _ => rfl
theorem zCN_mono {g c : Nat → Nat} (h : zCN g c) (m : Nat) : ∀ k, c m ≤ c (m + k)
  | 0 => Nat.le_refl _
  | k + 1 => by
    have e := h (m + k)
    have i := zCN_mono h m k
    show c m ≤ c (m + k + 1)
    rw [e]
    exact Nat.le_trans i (Nat.le_add_right _ _)
theorem zCN_le {g c : Nat → Nat} (h : zCN g c) {m n : Nat} (hmn : m ≤ n) : c m ≤ c n := by
  have e := zCN_mono h m (n - m)
  rw [show m + (n - m) = n by omega] at e
  exact e
theorem zCN_lt {g c : Nat → Nat} (h : zCN g c) {i k : Nat} (hik : i < k) (hz : ¬ g i = 0) : c i < c k := by
  have e := h i
  rw [if_neg hz] at e
  have q := zCN_le h (show i + 1 ≤ k from hik)
  omega
theorem zTG_zero (f : Nat → Int32) (n : Int) (g c : Nat → Nat) : zTG f f n g c 0 := ⟨fun _ _ => rfl, fun i h => absurd h (Nat.not_lt_zero i)⟩
theorem zTG_k {f f' : Nat → Int32} {n : Int} {g c : Nat → Nat} {k k2 : Nat} (h : zTG f f' n g c k) (e : k2 = k) : zTG f f' n g c k2 := by rw [e]; exact h
theorem zTG_no {f f' : Nat → Int32} {n : Int} {g c : Nat → Nat} {k k2 : Nat} (h : zTG f f' n g c k) (hz : g k = 0) (e : k2 = k + 1) : zTG f f' n g c k2 := by
  rw [e]
  refine ⟨h.1, fun i hi hg => ?_⟩
  rcases Nat.lt_or_ge i k with q | q
  · exact h.2 i q hg
  · exact absurd (show g i = 0 by rw [show i = k by omega]; exact hz) hg
theorem zTG_st {f f' : Nat → Int32} {n : Int} {g c : Nat → Nat} {k k2 : Nat} (h : zTG f f' n g c k) (hc : zCN g c) (h0 : 0 ≤ n) {i x : Int32} {a b : Int} (hi : i.toInt = a) (ha : a = n + ((c k : Nat) : Int)) (hx : x.toInt = b) (hb : b = ((g k : Nat) : Int)) (e : k2 = k + 1) : zTG f (upd f' (Int32.toNatClampNeg i) x) n g c k2 := by
  rw [e]
  have e1 : Int32.toNatClampNeg i = n.toNat + c k := by
    show i.toInt.toNat = _
    rw [hi, ha]
    omega
  rw [e1]
  refine ⟨fun j hj => ?_, fun j hj hg => ?_⟩
  · rw [zu_ne f' x (show j ≠ n.toNat + c k by omega)]
    exact h.1 j hj
  · rcases Nat.lt_or_ge j k with q | q
    · have l := zCN_lt hc q hg
      rw [zu_ne f' x (show n.toNat + c j ≠ n.toNat + c k by omega)]
      exact h.2 j q hg
    · have e2 : j = k := by omega
      rw [e2, zu_at, hx, hb]
theorem zTG_w {f f1 f2 : Nat → Int32} {n n2 : Int} {g c : Nat → Nat} {K K2 : Nat} {w : Int32} (h : zTG f f1 n g c K) (h2 : zTG f1 f2 n2 (bz w) (bc w) 4) (hc : zCN g c) (h0 : 0 ≤ n) (hn : n2 = n + ((c K : Nat) : Int)) (hg : ∀ i, i < 4 → g (K + i) = bz w i) (e : K2 = K + 4) : zTG f f2 n g c K2 := by
  rw [e]
  have hcc : ∀ i, i ≤ 4 → c (K + i) = c K + bc w i := by
    intro i
    induction i with
    | zero => intro _; rfl
    | succ i ih =>
      intro hi
      have a := hc (K + i)
      rw [hg i (by omega)] at a
      have b := ih (by omega)
      show c (K + i + 1) = c K + (bc w i + (if bz w i = 0 then 0 else 1))
      rw [a, b, Nat.add_assoc]
  refine ⟨fun j hj => ?_, fun j hj hz => ?_⟩
  · rw [h2.1 j (by omega)]
    exact h.1 j hj
  · rcases Nat.lt_or_ge j K with q | q
    · have l := zCN_lt hc q hz
      rw [h2.1 (n.toNat + c j) (by omega)]
      exact h.2 j q hz
    · obtain ⟨i, rfl⟩ : ∃ i, j = K + i := ⟨j - K, by omega⟩
      rw [hg i (by omega)] at hz ⊢
      rw [hcc i (by omega)]
      have r := h2.2 i (by omega) hz
      rw [show n.toNat + (c K + bc w i) = n2.toNat + bc w i by omega]
      exact r
theorem bz20_w0 (a b c d e : Int32) : ∀ i, i < 4 → bz20 a b c d e (0 + i) = bz a i := by
  intro i hi
  rcases (show i = 0 ∨ i = 1 ∨ i = 2 ∨ i = 3 by omega) with q | q | q | q <;> subst q <;> rfl
theorem bz20_w4 (a b c d e : Int32) : ∀ i, i < 4 → bz20 a b c d e (4 + i) = bz b i := by
  intro i hi
  rcases (show i = 0 ∨ i = 1 ∨ i = 2 ∨ i = 3 by omega) with q | q | q | q <;> subst q <;> rfl
theorem bz20_w8 (a b c d e : Int32) : ∀ i, i < 4 → bz20 a b c d e (8 + i) = bz c i := by
  intro i hi
  rcases (show i = 0 ∨ i = 1 ∨ i = 2 ∨ i = 3 by omega) with q | q | q | q <;> subst q <;> rfl
theorem bz20_w12 (a b c d e : Int32) : ∀ i, i < 4 → bz20 a b c d e (12 + i) = bz d i := by
  intro i hi
  rcases (show i = 0 ∨ i = 1 ∨ i = 2 ∨ i = 3 by omega) with q | q | q | q <;> subst q <;> rfl
theorem bz20_w16 (a b c d e : Int32) : ∀ i, i < 4 → bz20 a b c d e (16 + i) = bz e i := by
  intro i hi
  rcases (show i = 0 ∨ i = 1 ∨ i = 2 ∨ i = 3 by omega) with q | q | q | q <;> subst q <;> rfl
theorem bz_le (w : Int32) (j : Nat) : bz w j ≤ 255 := by
  show _ % 256 ≤ 255
  omega
theorem bz20_le (a b c d e : Int32) (j : Nat) : bz20 a b c d e j ≤ 255 := by
  unfold bz20
  have h1 := bz_le a (j % 4)
  have h2 := bz_le b (j % 4)
  have h3 := bz_le c (j % 4)
  have h4 := bz_le d (j % 4)
  have h5 := bz_le e (j % 4)
  split
  · exact h1
  · split
    · exact h2
    · split
      · exact h3
      · split
        · exact h4
        · exact h5
theorem bc_mono (w : Int32) {m n : Nat} (h : m ≤ n) : bc w m ≤ bc w n := zCN_le (zCN_bc w) h
theorem bc20_4 (a b c d e : Int32) : bc20 a b c d e 0 = 0 ∧ bc20 a b c d e 4 = bc a 4 ∧ bc20 a b c d e 8 = bc a 4 + bc b 4 ∧ bc20 a b c d e 12 = bc a 4 + bc b 4 + bc c 4 ∧ bc20 a b c d e 16 = bc a 4 + bc b 4 + bc c 4 + bc d 4 ∧ bc20 a b c d e 20 = bc a 4 + bc b 4 + bc c 4 + bc d 4 + bc e 4 := by
  refine ⟨rfl, ?_, ?_, ?_, ?_, bc20_sum a b c d e⟩ <;>
  · simp only [bc20, bc, bz20, Nat.reduceLT, Nat.reduceMod, if_true, if_false]
    try simp only [Nat.add_assoc, Nat.zero_add]
def zTGx (f f' : Nat → Int32) (n : Int) (a b c d e : Int32) : Prop := (n + ((bc20 a b c d e 20 : Nat) : Int) ≤ 100 ∧ zTG f f' n (bz20 a b c d e) (bc20 a b c d e) 20) ∨ (100 < n + ((bc20 a b c d e 20 : Nat) : Int) ∧ f' = f)
def zteq (f g : Nat → Int32) (n : Int) : Prop := ∀ j : Nat, (j : Int) < n → f j = g j
theorem zteq_mono {f g : Nat → Int32} {n m : Int} (h : zteq f g n) (e : m ≤ n) : zteq f g m := fun j hj => h j (by omega)
theorem zteq_rfl {f : Nat → Int32} {n : Int} : zteq f f n := fun _ _ => rfl
theorem zCN_surj {g c : Nat → Nat} (h : zCN g c) (h0 : c 0 = 0) : ∀ (k p : Nat), p < c k → ∃ i, i < k ∧ ¬ g i = 0 ∧ c i = p
  | 0, p, hp => by omega
  | k + 1, p, hp => by
    have e := h k
    by_cases q : p < c k
    · obtain ⟨i, a, b, d⟩ := zCN_surj h h0 k p q
      exact ⟨i, by omega, b, d⟩
    · by_cases z : g k = 0
      · rw [if_pos z] at e
        omega
      · rw [if_neg z] at e
        exact ⟨k, by omega, z, by omega⟩
theorem zTGx_eq {fx fx' fm fm' : Nat → Int32} {n nx n' : Int} {a b c d e : Int32} (h : zteq fx fm n) (h0 : 0 ≤ n) (en : nx = n) (hx : zTGx fx fx' nx a b c d e) (hm : zTGx fm fm' n a b c d e) (hn : (n + ((bc20 a b c d e 20 : Nat) : Int) ≤ 100 ∧ n' = n + ((bc20 a b c d e 20 : Nat) : Int)) ∨ (100 < n + ((bc20 a b c d e 20 : Nat) : Int) ∧ n' = n)) : zteq fx' fm' n' := by
  rw [en] at hx
  rcases hx with ⟨hx1, hx2⟩ | ⟨hx1, hx2⟩
  · rcases hm with ⟨hm1, hm2⟩ | ⟨hm1, hm2⟩
    · intro j hj
      rcases Int.lt_or_le (j : Int) n with q | q
      · rw [hx2.1 j q, hm2.1 j q]
        exact h j q
      · obtain ⟨i, i1, i2, i3⟩ := zCN_surj (zCN_bc20 a b c d e) rfl 20 (j - n.toNat) (by omega)
        have r1 := hx2.2 i i1 i2
        have r2 := hm2.2 i i1 i2
        rw [i3, show n.toNat + (j - n.toNat) = j by omega] at r1 r2
        exact Int32.toInt_inj.mp (r1.trans r2.symm)
    · omega
  · rcases hm with ⟨hm1, hm2⟩ | ⟨hm1, hm2⟩
    · omega
    · rw [hx2, hm2]
      exact zteq_mono h (by omega)
/-! ===== the reader of orders as an automaton: states 0 1 letter, 2 sign, 3 number, 4 14 24 digits, 5 colon, 6 pace, 7 next, -1 dead ===== -/
def au1 (q b : Int) : Int :=
  if q = -1 then -1
  else if b = 32 then (if q = 4 ∨ q = 14 ∨ q = 24 then 5 else q)
  else if q = 0 ∨ q = 1 then (if b = 115 ∨ b = 107 ∨ b = 103 ∨ b = 110 ∨ b = 112 then 2 else -1)
  else if q = 2 then (if b = 61 ∨ b = 60 ∨ b = 62 then 3 else -1)
  else if q = 3 then (if 48 ≤ b ∧ b ≤ 57 then 4 else -1)
  else if q = 4 ∨ q = 14 then (if 48 ≤ b ∧ b ≤ 57 then q + 10 else if b = 58 then 6 else -1)
  else if q = 24 ∨ q = 5 then (if b = 58 then 6 else -1)
  else if q = 6 then (if 48 ≤ b ∧ b ≤ 57 then 7 else -1)
  else (if b = 59 then 1 else -1)
theorem a1_dead (b : Int) : au1 (-1) b = -1 := by
  unfold au1
  exact if_pos rfl
theorem a1_blank {q : Int} (h1 : ¬ q = -1) (h4 : ¬ (q = 4 ∨ q = 14 ∨ q = 24)) : au1 q 32 = q := by
  unfold au1
  rw [if_neg h1, if_pos rfl, if_neg h4]
theorem a1_blankd {q : Int} (h4 : q = 4 ∨ q = 14 ∨ q = 24) : au1 q 32 = 5 := by
  unfold au1
  rw [if_neg (by omega), if_pos rfl, if_pos h4]
theorem a1_let {q b : Int} (h : q = 0 ∨ q = 1) (hb : ¬ b = 32) : ((b = 115 ∨ b = 107 ∨ b = 103 ∨ b = 110 ∨ b = 112) ∧ au1 q b = 2) ∨ (¬ (b = 115 ∨ b = 107 ∨ b = 103 ∨ b = 110 ∨ b = 112) ∧ au1 q b = -1) := by
  have e : au1 q b = (if b = 115 ∨ b = 107 ∨ b = 103 ∨ b = 110 ∨ b = 112 then 2 else -1) := by
    unfold au1
    rw [if_neg (by omega), if_neg hb, if_pos h]
  rw [e]
  by_cases c : (b = 115 ∨ b = 107 ∨ b = 103 ∨ b = 110 ∨ b = 112)
  · exact Or.inl ⟨c, if_pos c⟩
  · exact Or.inr ⟨c, if_neg c⟩
theorem a1_sig {q b : Int} (h : q = 2) (hb : ¬ b = 32) : ((b = 61 ∨ b = 60 ∨ b = 62) ∧ au1 q b = 3) ∨ (¬ (b = 61 ∨ b = 60 ∨ b = 62) ∧ au1 q b = -1) := by
  have e : au1 q b = (if b = 61 ∨ b = 60 ∨ b = 62 then 3 else -1) := by
    unfold au1
    rw [if_neg (by omega), if_neg hb, if_neg (by omega), if_pos h]
  rw [e]
  by_cases c : (b = 61 ∨ b = 60 ∨ b = 62)
  · exact Or.inl ⟨c, if_pos c⟩
  · exact Or.inr ⟨c, if_neg c⟩
theorem a1_num {q b : Int} (h : q = 3) (hb : ¬ b = 32) : ((48 ≤ b ∧ b ≤ 57) ∧ au1 q b = 4) ∨ (¬ (48 ≤ b ∧ b ≤ 57) ∧ au1 q b = -1) := by
  have e : au1 q b = (if 48 ≤ b ∧ b ≤ 57 then 4 else -1) := by
    unfold au1
    rw [if_neg (by omega), if_neg hb, if_neg (by omega), if_neg (by omega), if_pos h]
  rw [e]
  by_cases c : (48 ≤ b ∧ b ≤ 57)
  · exact Or.inl ⟨c, if_pos c⟩
  · exact Or.inr ⟨c, if_neg c⟩
theorem a1_mor {q b : Int} (h : q = 4 ∨ q = 14) (hb : ¬ b = 32) : ((48 ≤ b ∧ b ≤ 57) ∧ au1 q b = q + 10) ∨ (b = 58 ∧ au1 q b = 6) ∨ (¬ (48 ≤ b ∧ b ≤ 57) ∧ ¬ b = 58 ∧ au1 q b = -1) := by
  have e : au1 q b = (if 48 ≤ b ∧ b ≤ 57 then q + 10 else if b = 58 then 6 else -1) := by
    unfold au1
    rw [if_neg (by omega), if_neg hb, if_neg (by omega), if_neg (by omega), if_neg (by omega), if_pos h]
  rw [e]
  by_cases c : (48 ≤ b ∧ b ≤ 57)
  · exact Or.inl ⟨c, if_pos c⟩
  · by_cases d : b = 58
    · exact Or.inr (Or.inl ⟨d, by rw [if_neg c, if_pos d]⟩)
    · exact Or.inr (Or.inr ⟨c, d, by rw [if_neg c, if_neg d]⟩)
theorem a1_col {q b : Int} (h : q = 24 ∨ q = 5) (hb : ¬ b = 32) : (b = 58 ∧ au1 q b = 6) ∨ (¬ b = 58 ∧ au1 q b = -1) := by
  have e : au1 q b = (if b = 58 then 6 else -1) := by
    unfold au1
    rw [if_neg (by omega), if_neg hb, if_neg (by omega), if_neg (by omega), if_neg (by omega), if_neg (by omega), if_pos h]
  rw [e]
  by_cases c : b = 58
  · exact Or.inl ⟨c, if_pos c⟩
  · exact Or.inr ⟨c, if_neg c⟩
theorem a1_pac {q b : Int} (h : q = 6) (hb : ¬ b = 32) : ((48 ≤ b ∧ b ≤ 57) ∧ au1 q b = 7) ∨ (¬ (48 ≤ b ∧ b ≤ 57) ∧ au1 q b = -1) := by
  have e : au1 q b = (if 48 ≤ b ∧ b ≤ 57 then 7 else -1) := by
    unfold au1
    rw [if_neg (by omega), if_neg hb, if_neg (by omega), if_neg (by omega), if_neg (by omega), if_neg (by omega), if_neg (by omega), if_pos h]
  rw [e]
  by_cases c : (48 ≤ b ∧ b ≤ 57)
  · exact Or.inl ⟨c, if_pos c⟩
  · exact Or.inr ⟨c, if_neg c⟩
theorem a1_nxt {q b : Int} (h : q = 7) (hb : ¬ b = 32) : (b = 59 ∧ au1 q b = 1) ∨ (¬ b = 59 ∧ au1 q b = -1) := by
  have e : au1 q b = (if b = 59 then 1 else -1) := by
    unfold au1
    rw [if_neg (by omega), if_neg hb, if_neg (by omega), if_neg (by omega), if_neg (by omega), if_neg (by omega), if_neg (by omega), if_neg (by omega)]
  rw [e]
  by_cases c : b = 59
  · exact Or.inl ⟨c, if_pos c⟩
  · exact Or.inr ⟨c, if_neg c⟩
def au (t : Nat → Int32) : Nat → Int
  | 0 => 0
  | j + 1 => au1 (au t j) (t j).toInt
def AU (t : Nat → Int32) (a : Int) : Int := au t a.toNat
def ztb (t : Nat → Int32) (a : Int) : Int := (t a.toNat).toInt
theorem AU_zero (t : Nat → Int32) : AU t (0 : Int) = 0 := rfl
theorem ztb_ld {t : Nat → Int32} {i v : Int32} {a : Int} (e : v = t (Int32.toNatClampNeg i)) (hi : i.toInt = a) : v.toInt = ztb t a := by
  rw [e]
  show (t i.toInt.toNat).toInt = (t a.toNat).toInt
  rw [hi]
theorem au_step (t : Nat → Int32) {a : Int} (h : 0 ≤ a) : AU t (a + 1) = au1 (AU t a) (ztb t a) := by
  show au t (a + 1).toNat = _
  rw [show (a + 1).toNat = a.toNat + 1 by omega]
  rfl
theorem au_dead {t : Nat → Int32} {j : Nat} (h : au t j = -1) : ∀ k, au t (j + k) = -1
  | 0 => h
  | k + 1 => by
    show au1 (au t (j + k)) (t (j + k)).toInt = -1
    rw [au_dead h k]
    exact a1_dead _
def fd (t : Nat → Int32) : Nat → Int
  | 0 => 0
  | k + 1 => if au t k = -1 then fd t k else (k : Int)
def fv (t : Nat → Int32) (n : Int) : Int := if AU t n = -1 then fd t n.toNat else if AU t n = 0 ∨ AU t n = 7 then -1 else n
theorem fd_eq {t : Nat → Int32} : ∀ {n j : Nat}, j < n → ¬ au t j = -1 → au t (j + 1) = -1 → fd t n = (j : Int)
  | 0, j, h, _, _ => absurd h (Nat.not_lt_zero _)
  | k + 1, j, h, h1, h2 => by
    show (if au t k = -1 then fd t k else (k : Int)) = j
    rcases Nat.lt_or_ge j k with q | q
    · have e := au_dead h2 (k - (j + 1))
      rw [show j + 1 + (k - (j + 1)) = k by omega] at e
      rw [if_pos e]
      exact fd_eq q h1 h2
    · have e : j = k := by omega
      rw [if_neg (by rw [← e]; exact h1), e]
theorem fv_of {t : Nat → Int32} {n u : Int} (h0 : 0 ≤ n) (h : (u = -1 ∧ (AU t n = 0 ∨ AU t n = 7)) ∨ (0 ≤ u ∧ u < n ∧ ¬ AU t u = -1 ∧ AU t (u + 1) = -1) ∨ (u = n ∧ ¬ AU t u = -1 ∧ ¬ AU t u = 0 ∧ ¬ AU t u = 7)) : u = fv t n := by
  rcases h with ⟨h1, h2⟩ | ⟨h1, h2, h3, h4⟩ | ⟨h1, h2, h3, h4⟩
  · unfold fv
    rw [if_neg (by omega), if_pos h2]
    exact h1
  · have e4 : au t (u.toNat + 1) = -1 := by
      have q : AU t (u + 1) = au t (u.toNat + 1) := by
        show au t (u + 1).toNat = _
        rw [show (u + 1).toNat = u.toNat + 1 by omega]
      rw [← q]
      exact h4
    have e5 : AU t n = -1 := by
      have q := au_dead e4 (n.toNat - (u.toNat + 1))
      rw [show u.toNat + 1 + (n.toNat - (u.toNat + 1)) = n.toNat by omega] at q
      exact q
    unfold fv
    rw [if_pos e5, fd_eq (j := u.toNat) (by omega) h3 e4]
    omega
  · have e5 : ¬ (AU t u = 0 ∨ AU t u = 7) := by omega
    rw [← h1]
    unfold fv
    rw [if_neg h2, if_neg e5]
theorem au_cong {t t2 : Nat → Int32} : ∀ {n : Nat}, (∀ j, j < n → t j = t2 j) → au t n = au t2 n
  | 0, _ => rfl
  | n + 1, h => by
    show au1 (au t n) (t n).toInt = au1 (au t2 n) (t2 n).toInt
    rw [au_cong (n := n) (fun j hj => h j (by omega)), h n (by omega)]
theorem fd_cong {t t2 : Nat → Int32} : ∀ {n : Nat}, (∀ j, j < n → t j = t2 j) → fd t n = fd t2 n
  | 0, _ => rfl
  | n + 1, h => by
    show (if au t n = -1 then fd t n else (n : Int)) = (if au t2 n = -1 then fd t2 n else (n : Int))
    rw [au_cong (n := n) (fun j hj => h j (by omega)), fd_cong (n := n) (fun j hj => h j (by omega))]
theorem fv_cong {t t2 : Nat → Int32} {n m : Int} (h : zteq t t2 m) (e : n = m) (h0 : 0 ≤ m) : fv t n = fv t2 m := by
  rw [e]
  have a : AU t m = AU t2 m := au_cong (fun j hj => h j (by omega))
  have b : fd t m.toNat = fd t2 m.toNat := fd_cong (fun j hj => h j (by omega))
  unfold fv
  rw [a, b]
/-! blanks -/
def sk (t : Nat → Int32) (a b : Int) : Prop := ∀ j : Nat, a ≤ (j : Int) → (j : Int) < b → (t j).toInt = 32
theorem sk_zero {t : Nat → Int32} {a b : Int} (h : b ≤ a) : sk t a b := fun j h1 h2 => by omega
theorem sk_step {t : Nat → Int32} {a b c : Int} (h : sk t a b) (e : c = b + 1) (h0 : 0 ≤ b) (hb : ztb t b = 32) : sk t a c := by
  intro j h1 h2
  rcases Int.lt_or_le (j : Int) b with q | q
  · exact h j h1 q
  · have e2 : j = b.toNat := by omega
    rw [e2]
    exact hb
theorem sk_au {t : Nat → Int32} {a b : Int} (h : sk t a b) (h0 : 0 ≤ a) (hab : a ≤ b) (h1 : ¬ AU t a = -1) (h4 : ¬ (AU t a = 4 ∨ AU t a = 14 ∨ AU t a = 24)) : AU t b = AU t a := by
  have g : ∀ k : Nat, a + (k : Int) ≤ b → AU t (a + (k : Int)) = AU t a := by
    intro k
    induction k with
    | zero => intro _; rw [show a + ((0 : Nat) : Int) = a by omega]
    | succ k ih =>
      intro hk
      have e := ih (by omega)
      have s := au_step t (a := a + (k : Int)) (by omega)
      rw [show a + ((k + 1 : Nat) : Int) = a + (k : Int) + 1 by omega, s, e]
      have bb : ztb t (a + (k : Int)) = 32 := h (a + (k : Int)).toNat (by omega) (by omega)
      rw [bb]
      exact a1_blank h1 h4
  have r := g (b - a).toNat (by omega)
  rw [show a + (((b - a).toNat : Nat) : Int) = b by omega] at r
  exact r
theorem sk_aud {t : Nat → Int32} {a b : Int} (h : sk t a b) (h0 : 0 ≤ a) (hab : a ≤ b) (h4 : AU t a = 4 ∨ AU t a = 14 ∨ AU t a = 24) : (b = a ∧ AU t b = AU t a) ∨ (a < b ∧ AU t b = 5) := by
  rcases (show b = a ∨ a < b by omega) with q | q
  · exact Or.inl ⟨q, by rw [q]⟩
  · have s := au_step t h0
    have bb : ztb t a = 32 := h a.toNat (by omega) (by omega)
    rw [bb, a1_blankd h4] at s
    have r := sk_au (t := t) (a := a + 1) (b := b) (fun j h1 h2 => h j (by omega) h2) (by omega) (by omega) (by omega) (by omega)
    exact Or.inr ⟨q, by omega⟩
theorem au_first {t : Nat → Int32} {a b n : Int} (h : sk t a b) (h0 : 0 ≤ a) (hab : a ≤ b) (hq : AU t a = 1 ∨ (AU t a = 0 ∧ a < n ∧ ¬ ztb t a = 32)) : AU t b = 1 ∨ (AU t b = 0 ∧ b < n) := by
  rcases hq with z | ⟨z1, z2, z3⟩
  · exact Or.inl ((sk_au h h0 hab (by omega) (by omega)).trans z)
  · rcases (show b = a ∨ a < b by omega) with q | q
    · exact Or.inr (by rw [q]; exact ⟨z1, z2⟩)
    · exact absurd (h a.toNat (by omega) (by omega)) z3
theorem dg_step {t : Nat → Int32} {a n N : Int} (h : (n = 0 ∧ AU t a = 3 ∧ a < N ∧ 48 ≤ ztb t a ∧ ztb t a ≤ 57) ∨ (1 ≤ n ∧ AU t a = 10 * n - 6)) (h0 : 0 ≤ a) (hn : n < 3) (hb : 48 ≤ ztb t a ∧ ztb t a ≤ 57) : AU t (a + 1) = 10 * (n + 1) - 6 := by
  have s := au_step t h0
  rcases h with ⟨z1, z2, _⟩ | ⟨z1, z2⟩
  · have q := a1_num (q := AU t a) (b := ztb t a) z2 (by omega)
    omega
  · have q := a1_mor (q := AU t a) (b := ztb t a) (by omega) (by omega)
    omega
theorem nd_dead {t : Nat → Int32} {a : Int} (h0 : 0 ≤ a) (h : AU t a = 4 ∨ AU t a = 14 ∨ AU t a = 24 ∨ AU t a = 5) (hb : ¬ ztb t a = 32) (h58 : ¬ ztb t a = 58) (hd : AU t a = 24 ∨ AU t a = 5 ∨ ¬ (48 ≤ ztb t a ∧ ztb t a ≤ 57)) : AU t (a + 1) = -1 := by
  have s := au_step t h0
  rcases (show (AU t a = 24 ∨ AU t a = 5) ∨ (AU t a = 4 ∨ AU t a = 14) by omega) with z | z
  · have q := a1_col (q := AU t a) (b := ztb t a) z hb
    omega
  · have q := a1_mor (q := AU t a) (b := ztb t a) z hb
    omega
theorem nd_col {t : Nat → Int32} {a : Int} (h0 : 0 ≤ a) (h : AU t a = 4 ∨ AU t a = 14 ∨ AU t a = 24 ∨ AU t a = 5) (h58 : ztb t a = 58) : AU t (a + 1) = 6 := by
  have s := au_step t h0
  rcases (show (AU t a = 24 ∨ AU t a = 5) ∨ (AU t a = 4 ∨ AU t a = 14) by omega) with z | z
  · have q := a1_col (q := AU t a) (b := ztb t a) z (by omega)
    omega
  · have q := a1_mor (q := AU t a) (b := ztb t a) z (by omega)
    omega
/-! what a byte does to the reader of the first side -/
def zGO (a d b u A D : Int) : Prop :=
  (u = 1 ∧ b = 32 ∧ a = 4 ∧ A = 5) ∨ (u = 1 ∧ b = 32 ∧ ¬ a = 4 ∧ 0 ≤ a ∧ a ≤ 7 ∧ A = a ∧ D = d)
  ∨ (u = 1 ∧ ¬ b = 32 ∧ (a = 0 ∨ a = 1) ∧ (b = 115 ∨ b = 107 ∨ b = 103 ∨ b = 110 ∨ b = 112) ∧ A = 2) ∨ (u = 0 ∧ ¬ b = 32 ∧ (a = 0 ∨ a = 1) ∧ ¬ (b = 115 ∨ b = 107 ∨ b = 103 ∨ b = 110 ∨ b = 112))
  ∨ (u = 1 ∧ ¬ b = 32 ∧ a = 2 ∧ (b = 61 ∨ b = 60 ∨ b = 62) ∧ A = 3) ∨ (u = 0 ∧ ¬ b = 32 ∧ a = 2 ∧ ¬ (b = 61 ∨ b = 60 ∨ b = 62))
  ∨ (u = 1 ∧ ¬ b = 32 ∧ a = 3 ∧ (48 ≤ b ∧ b ≤ 57) ∧ A = 4 ∧ D = 1) ∨ (u = 0 ∧ ¬ b = 32 ∧ a = 3 ∧ ¬ (48 ≤ b ∧ b ≤ 57))
  ∨ (u = 1 ∧ ¬ b = 32 ∧ a = 4 ∧ (48 ≤ b ∧ b ≤ 57) ∧ d < 3 ∧ A = 4 ∧ D = d + 1) ∨ (u = 1 ∧ ¬ b = 32 ∧ a = 4 ∧ b = 58 ∧ A = 6) ∨ (u = 0 ∧ ¬ b = 32 ∧ a = 4 ∧ ¬ (48 ≤ b ∧ b ≤ 57 ∧ d < 3) ∧ ¬ b = 58)
  ∨ (u = 1 ∧ ¬ b = 32 ∧ a = 5 ∧ b = 58 ∧ A = 6) ∨ (u = 0 ∧ ¬ b = 32 ∧ a = 5 ∧ ¬ b = 58)
  ∨ (u = 1 ∧ ¬ b = 32 ∧ a = 6 ∧ (48 ≤ b ∧ b ≤ 57) ∧ A = 7) ∨ (u = 0 ∧ ¬ b = 32 ∧ a = 6 ∧ ¬ (48 ≤ b ∧ b ≤ 57))
  ∨ (u = 1 ∧ ¬ b = 32 ∧ a = 7 ∧ b = 59 ∧ A = 1) ∨ (u = 0 ∧ ¬ b = 32 ∧ a = 7 ∧ ¬ b = 59)
theorem zGO_bl4 {a d b u A D : Int} (h : u = 1 ∧ b = 32 ∧ a = 4 ∧ A = 5) : zGO a d b u A D := Or.inl h
theorem zGO_bl {a d b u A D : Int} (h : u = 1 ∧ b = 32 ∧ ¬ a = 4 ∧ 0 ≤ a ∧ a ≤ 7 ∧ A = a ∧ D = d) : zGO a d b u A D := Or.inr (Or.inl h)
theorem zGO_let {a d b u A D : Int} (h : u = 1 ∧ ¬ b = 32 ∧ (a = 0 ∨ a = 1) ∧ (b = 115 ∨ b = 107 ∨ b = 103 ∨ b = 110 ∨ b = 112) ∧ A = 2) : zGO a d b u A D := Or.inr (Or.inr (Or.inl h))
theorem zGO_letn {a d b u A D : Int} (h : u = 0 ∧ ¬ b = 32 ∧ (a = 0 ∨ a = 1) ∧ ¬ (b = 115 ∨ b = 107 ∨ b = 103 ∨ b = 110 ∨ b = 112)) : zGO a d b u A D := Or.inr (Or.inr (Or.inr (Or.inl h)))
theorem zGO_sig {a d b u A D : Int} (h : u = 1 ∧ ¬ b = 32 ∧ a = 2 ∧ (b = 61 ∨ b = 60 ∨ b = 62) ∧ A = 3) : zGO a d b u A D := Or.inr (Or.inr (Or.inr (Or.inr (Or.inl h))))
theorem zGO_sign {a d b u A D : Int} (h : u = 0 ∧ ¬ b = 32 ∧ a = 2 ∧ ¬ (b = 61 ∨ b = 60 ∨ b = 62)) : zGO a d b u A D := Or.inr (Or.inr (Or.inr (Or.inr (Or.inr (Or.inl h)))))
theorem zGO_num {a d b u A D : Int} (h : u = 1 ∧ ¬ b = 32 ∧ a = 3 ∧ (48 ≤ b ∧ b ≤ 57) ∧ A = 4 ∧ D = 1) : zGO a d b u A D := Or.inr (Or.inr (Or.inr (Or.inr (Or.inr (Or.inr (Or.inl h))))))
theorem zGO_numn {a d b u A D : Int} (h : u = 0 ∧ ¬ b = 32 ∧ a = 3 ∧ ¬ (48 ≤ b ∧ b ≤ 57)) : zGO a d b u A D := Or.inr (Or.inr (Or.inr (Or.inr (Or.inr (Or.inr (Or.inr (Or.inl h)))))))
theorem zGO_mor {a d b u A D : Int} (h : u = 1 ∧ ¬ b = 32 ∧ a = 4 ∧ (48 ≤ b ∧ b ≤ 57) ∧ d < 3 ∧ A = 4 ∧ D = d + 1) : zGO a d b u A D := Or.inr (Or.inr (Or.inr (Or.inr (Or.inr (Or.inr (Or.inr (Or.inr (Or.inl h))))))))
theorem zGO_mor58 {a d b u A D : Int} (h : u = 1 ∧ ¬ b = 32 ∧ a = 4 ∧ b = 58 ∧ A = 6) : zGO a d b u A D := Or.inr (Or.inr (Or.inr (Or.inr (Or.inr (Or.inr (Or.inr (Or.inr (Or.inr (Or.inl h)))))))))
theorem zGO_morn {a d b u A D : Int} (h : u = 0 ∧ ¬ b = 32 ∧ a = 4 ∧ ¬ (48 ≤ b ∧ b ≤ 57 ∧ d < 3) ∧ ¬ b = 58) : zGO a d b u A D := Or.inr (Or.inr (Or.inr (Or.inr (Or.inr (Or.inr (Or.inr (Or.inr (Or.inr (Or.inr (Or.inl h))))))))))
theorem zGO_col {a d b u A D : Int} (h : u = 1 ∧ ¬ b = 32 ∧ a = 5 ∧ b = 58 ∧ A = 6) : zGO a d b u A D := Or.inr (Or.inr (Or.inr (Or.inr (Or.inr (Or.inr (Or.inr (Or.inr (Or.inr (Or.inr (Or.inr (Or.inl h)))))))))))
theorem zGO_coln {a d b u A D : Int} (h : u = 0 ∧ ¬ b = 32 ∧ a = 5 ∧ ¬ b = 58) : zGO a d b u A D := Or.inr (Or.inr (Or.inr (Or.inr (Or.inr (Or.inr (Or.inr (Or.inr (Or.inr (Or.inr (Or.inr (Or.inr (Or.inl h))))))))))))
theorem zGO_pac {a d b u A D : Int} (h : u = 1 ∧ ¬ b = 32 ∧ a = 6 ∧ (48 ≤ b ∧ b ≤ 57) ∧ A = 7) : zGO a d b u A D := Or.inr (Or.inr (Or.inr (Or.inr (Or.inr (Or.inr (Or.inr (Or.inr (Or.inr (Or.inr (Or.inr (Or.inr (Or.inr (Or.inl h)))))))))))))
theorem zGO_pacn {a d b u A D : Int} (h : u = 0 ∧ ¬ b = 32 ∧ a = 6 ∧ ¬ (48 ≤ b ∧ b ≤ 57)) : zGO a d b u A D := Or.inr (Or.inr (Or.inr (Or.inr (Or.inr (Or.inr (Or.inr (Or.inr (Or.inr (Or.inr (Or.inr (Or.inr (Or.inr (Or.inr (Or.inl h))))))))))))))
theorem zGO_nxt {a d b u A D : Int} (h : u = 1 ∧ ¬ b = 32 ∧ a = 7 ∧ b = 59 ∧ A = 1) : zGO a d b u A D := Or.inr (Or.inr (Or.inr (Or.inr (Or.inr (Or.inr (Or.inr (Or.inr (Or.inr (Or.inr (Or.inr (Or.inr (Or.inr (Or.inr (Or.inr (Or.inl h)))))))))))))))
theorem zGO_nxtn {a d b u A D : Int} (h : u = 0 ∧ ¬ b = 32 ∧ a = 7 ∧ ¬ b = 59) : zGO a d b u A D := Or.inr (Or.inr (Or.inr (Or.inr (Or.inr (Or.inr (Or.inr (Or.inr (Or.inr (Or.inr (Or.inr (Or.inr (Or.inr (Or.inr (Or.inr (Or.inr h)))))))))))))))
theorem go_ok {a d b u A D q : Int} (h : zGO a d b u A D) (hd : 0 ≤ d ∧ d ≤ 3) (hq : (a = 4 ∧ 1 ≤ d ∧ q = 10 * d - 6) ∨ (¬ a = 4 ∧ q = a)) : (u = 1 ∧ ((A = 4 ∧ 1 ≤ D ∧ au1 q b = 10 * D - 6) ∨ (¬ A = 4 ∧ au1 q b = A))) ∨ (u = 0 ∧ au1 q b = -1) := by
  rcases h with h | h | h | h | h | h | h | h | h | h | h | h | h | h | h | h | h
  · have z := a1_blankd (q := q) (by omega)
    rw [h.2.1, z]
    omega
  · have z := a1_blank (q := q) (by omega) (by omega)
    rw [h.2.1, z]
    omega
  · have z := a1_let (q := q) (b := b) (by omega) (by omega)
    omega
  · have z := a1_let (q := q) (b := b) (by omega) (by omega)
    omega
  · have z := a1_sig (q := q) (b := b) (by omega) (by omega)
    omega
  · have z := a1_sig (q := q) (b := b) (by omega) (by omega)
    omega
  · have z := a1_num (q := q) (b := b) (by omega) (by omega)
    omega
  · have z := a1_num (q := q) (b := b) (by omega) (by omega)
    omega
  · have z := a1_mor (q := q) (b := b) (by omega) (by omega)
    omega
  · rcases (show (q = 4 ∨ q = 14) ∨ (q = 24 ∨ q = 5) by omega) with y | y
    · have z := a1_mor (q := q) (b := b) y (by omega)
      omega
    · have z := a1_col (q := q) (b := b) y (by omega)
      omega
  · rcases (show (q = 4 ∨ q = 14) ∨ (q = 24 ∨ q = 5) by omega) with y | y
    · have z := a1_mor (q := q) (b := b) y (by omega)
      omega
    · have z := a1_col (q := q) (b := b) y (by omega)
      omega
  · have z := a1_col (q := q) (b := b) (by omega) (by omega)
    omega
  · have z := a1_col (q := q) (b := b) (by omega) (by omega)
    omega
  · have z := a1_pac (q := q) (b := b) (by omega) (by omega)
    omega
  · have z := a1_pac (q := q) (b := b) (by omega) (by omega)
    omega
  · have z := a1_nxt (q := q) (b := b) (by omega) (by omega)
    omega
  · have z := a1_nxt (q := q) (b := b) (by omega) (by omega)
    omega
