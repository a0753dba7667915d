/-! ===== bytes of a word, counted ===== -/
def bz (w : Int32) (j : Nat) : Nat := (w.toBitVec.toNat / 2 ^ (24 - 8 * j)) % 256
def bc (w : Int32) : Nat → Nat
  | 0 => 0
  | j + 1 => bc w j + (if bz w j = 0 then 0 else 1)
def bz20 (a b c d e : Int32) (j : Nat) : Nat := if j < 4 then bz a (j % 4) else if j < 8 then bz b (j % 4) else if j < 12 then bz c (j % 4) else if j < 16 then bz d (j % 4) else bz e (j % 4)
def bc20 (a b c d e : Int32) : Nat → Nat
  | 0 => 0
  | j + 1 => bc20 a b c d e j + (if bz20 a b c d e j = 0 then 0 else 1)
theorem bc_le (w : Int32) : ∀ j, bc w j ≤ j
  | 0 => Nat.le_refl 0
  | j + 1 => by
    have h := bc_le w j
    show bc w j + (if bz w j = 0 then 0 else 1) ≤ j + 1
    split <;> omega
theorem bc20_le (a b c d e : Int32) : ∀ j, bc20 a b c d e j ≤ j
  | 0 => Nat.le_refl 0
  | j + 1 => by
    have h := bc20_le a b c d e j
    show bc20 a b c d e j + (if bz20 a b c d e j = 0 then 0 else 1) ≤ j + 1
    split <;> omega
theorem bc_step (w : Int32) {i : Int} (h : 0 ≤ i) : (bz w i.toNat = 0 ∧ bc w (i + 1).toNat = bc w i.toNat) ∨ (¬ bz w i.toNat = 0 ∧ bc w (i + 1).toNat = bc w i.toNat + 1) := by
  have e : (i + 1).toNat = i.toNat + 1 := by omega
  rw [e]
  by_cases q : bz w i.toNat = 0
  · exact Or.inl ⟨q, by show bc w i.toNat + (if bz w i.toNat = 0 then 0 else 1) = _; rw [if_pos q, Nat.add_zero]⟩
  · exact Or.inr ⟨q, by show bc w i.toNat + (if bz w i.toNat = 0 then 0 else 1) = _; rw [if_neg q]⟩
theorem bc20_step (a b c d e' : Int32) {i : Int} (h : 0 ≤ i) : (bz20 a b c d e' i.toNat = 0 ∧ bc20 a b c d e' (i + 1).toNat = bc20 a b c d e' i.toNat) ∨ (¬ bz20 a b c d e' i.toNat = 0 ∧ bc20 a b c d e' (i + 1).toNat = bc20 a b c d e' i.toNat + 1) := by
  have e : (i + 1).toNat = i.toNat + 1 := by omega
  rw [e]
  by_cases q : bz20 a b c d e' i.toNat = 0
  · exact Or.inl ⟨q, by show bc20 a b c d e' i.toNat + (if bz20 a b c d e' i.toNat = 0 then 0 else 1) = _; rw [if_pos q, Nat.add_zero]⟩
  · exact Or.inr ⟨q, by show bc20 a b c d e' i.toNat + (if bz20 a b c d e' i.toNat = 0 then 0 else 1) = _; rw [if_neg q]⟩
theorem bc20_mono (a b c d e : Int32) : ∀ {m n : Nat}, m ≤ n → bc20 a b c d e m ≤ bc20 a b c d e n := by
  intro m n h
  induction h with
  | refl => exact Nat.le_refl _
  | step _ ih => exact Nat.le_trans ih (by show _ ≤ bc20 a b c d e _ + (if _ then 0 else 1); omega)
theorem bc20_sum (a b c d e : Int32) : bc20 a b c d e 20 = bc a 4 + bc b 4 + bc c 4 + bc d 4 + bc e 4 := by
  simp only [bc20, bc, bz20, Nat.reduceLT, Nat.reduceMod, if_true, if_false]
  simp only [Nat.add_assoc, Nat.zero_add]
theorem zz_lit4 (v : Int32) {p : Int} (hp : 0 ≤ p) (h3 : p ≤ 3) (hv : v.toInt = 8 * (3 - p)) : (p = 0 ∧ v = 24) ∨ (p = 1 ∧ v = 16) ∨ (p = 2 ∧ v = 8) ∨ (p = 3 ∧ v = 0) := by
  rcases (show p = 0 ∨ p = 1 ∨ p = 2 ∨ p = 3 by omega) with q | q | q | q
  · exact Or.inl ⟨q, Int32.toInt_inj.mp (hv.trans (by rw [q]; decide))⟩
  · exact Or.inr (Or.inl ⟨q, Int32.toInt_inj.mp (hv.trans (by rw [q]; decide))⟩)
  · exact Or.inr (Or.inr (Or.inl ⟨q, Int32.toInt_inj.mp (hv.trans (by rw [q]; decide))⟩))
  · exact Or.inr (Or.inr (Or.inr ⟨q, Int32.toInt_inj.mp (hv.trans (by rw [q]; decide))⟩))
theorem zz_and255 (x : Int32) : (x &&& 255).toInt = ((x.toBitVec.toNat % 256 : Nat) : Int) := by
  rw [pk_and x 8 (by decide), nI_toInt (by omega)]
theorem zz_byteU (w v : Int32) {p : Int} (hp : 0 ≤ p) (h3 : p ≤ 3) (hv : v.toInt = 8 * (3 - p)) : ((w.toUInt32 >>> (v.toUInt32 &&& Int32.toUInt32 31)).toInt32 &&& 255).toInt = ((bz w p.toNat : Nat) : Int) := by
  rw [zz_and255]
  rcases zz_lit4 v hp h3 hv with ⟨rfl, rfl⟩ | ⟨rfl, rfl⟩ | ⟨rfl, rfl⟩ | ⟨rfl, rfl⟩
  · rw [pk_ushr w 24 24 (by decide)]; rfl
  · rw [pk_ushr w 16 16 (by decide)]; rfl
  · rw [pk_ushr w 8 8 (by decide)]; rfl
  · rw [pk_ushr w 0 0 (by decide)]; rfl
theorem zz_natInt (x : Int32) : (x.toInt = (x.toBitVec.toNat : Int) ∨ x.toInt = (x.toBitVec.toNat : Int) - 4294967296) ∧ x.toBitVec.toNat < 4294967296 := by
  have h : x.toBitVec.toNat < 2 ^ 32 := x.toBitVec.isLt
  refine ⟨?_, by omega⟩
  have e : x.toInt = x.toBitVec.toInt := rfl
  rw [e, BitVec.toInt_eq_toNat_cond]
  split
  · exact Or.inl rfl
  · exact Or.inr (by simp)
theorem zz_byteS (w v : Int32) {p : Int} (hp : 0 ≤ p) (h3 : p ≤ 3) (hv : v.toInt = 24 - 8 * p) : ((w >>> (v &&& 31)) &&& 255).toInt = ((bz w p.toNat : Nat) : Int) := by
  rw [zz_and255]
  have h1 := zz_natInt w
  have h2 := zz_natInt (w >>> (v &&& 31))
  rcases zz_lit4 v hp h3 (by omega) with ⟨rfl, rfl⟩ | ⟨rfl, rfl⟩ | ⟨rfl, rfl⟩ | ⟨rfl, rfl⟩
  · have e := pk_shr w (24 &&& 31) 24 (by decide)
    rw [Int.shiftRight_eq_div_pow] at e
    show ((_ % 256 : Nat) : Int) = ((w.toBitVec.toNat / 2 ^ 24 % 256 : Nat) : Int)
    omega
  · have e := pk_shr w (16 &&& 31) 16 (by decide)
    rw [Int.shiftRight_eq_div_pow] at e
    show ((_ % 256 : Nat) : Int) = ((w.toBitVec.toNat / 2 ^ 16 % 256 : Nat) : Int)
    omega
  · have e := pk_shr w (8 &&& 31) 8 (by decide)
    rw [Int.shiftRight_eq_div_pow] at e
    show ((_ % 256 : Nat) : Int) = ((w.toBitVec.toNat / 2 ^ 8 % 256 : Nat) : Int)
    omega
  · have e := pk_shr w (0 &&& 31) 0 (by decide)
    rw [Int.shiftRight_eq_div_pow] at e
    show ((_ % 256 : Nat) : Int) = ((w.toBitVec.toNat / 2 ^ 0 % 256 : Nat) : Int)
    omega
