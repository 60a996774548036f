/-! entry of a method with its locals listed; calls that change nothing; numbers and bits -/
theorem zC_of {l : Launch} {g : zG} {M : zM} {n : Nat} {av : List Value} {d : zD} {Q : Option Value → zD → Prop} {k : Nat} {L : List (Nat × Value)} (hM : zmk M k) (hn : (lg_sl av).length ≤ M.2.2.2.1) (hg : zAmOk g) (hL : lv_args 0 av = L) (body : ∀ x : zX, zV l x g M n Q 0 L [] d) : zC l g M n av d Q :=
  zC.of hM hn hg (fun x => by rw [hL]; exact body x)
abbrev zpu (v : Value) (d : zD) : Option Value → zD → Prop := fun r d' => r = some v ∧ d' = d
theorem zpure {l : Launch} {x : zX} {g : zG} {M : zM} {n : Nat} {Q : Option Value → zD → Prop} {pc : Nat} {L : List (Nat × Value)} {st : List Value} {d : zD} {w : Value} (k : zV l x g M n Q pc L (w :: st) d) : ∀ (r : Option Value) (d' : zD), (r = some w ∧ d' = d) → zV l x g M n Q pc L (r.toList ++ st) d' := by
  rintro r d' ⟨rfl, rfl⟩
  exact k
theorem zvoid {l : Launch} {x : zX} {g : zG} {M : zM} {n : Nat} {Q : Option Value → zD → Prop} {pc : Nat} {L : List (Nat × Value)} {st : List Value} {P : zD → Prop} (k : ∀ d', P d' → zV l x g M n Q pc L st d') : ∀ (r : Option Value) (d' : zD), (r = none ∧ P d') → zV l x g M n Q pc L (r.toList ++ st) d' := by
  rintro r d' ⟨rfl, h⟩
  exact k d' h
/-- another number of the same value on top, or as a local: by an equation -/
theorem z_top {l : Launch} {x : zX} {g : zG} {M : zM} {n : Nat} {Q : Option Value → zD → Prop} {pc : Nat} {L : List (Nat × Value)} {st : List Value} {d : zD} {a : Int} (b : Int) (h : a = b) (k : zV l x g M n Q pc L (zi b :: st) d) : zV l x g M n Q pc L (zi a :: st) d := by subst h; exact k
theorem z_top2 {l : Launch} {x : zX} {g : zG} {M : zM} {n : Nat} {Q : Option Value → zD → Prop} {pc : Nat} {L : List (Nat × Value)} {v : Value} {st : List Value} {d : zD} {a : Int} (b : Int) (h : a = b) (k : zV l x g M n Q pc L (v :: zi b :: st) d) : zV l x g M n Q pc L (v :: zi a :: st) d := by subst h; exact k
theorem z_top3 {l : Launch} {x : zX} {g : zG} {M : zM} {n : Nat} {Q : Option Value → zD → Prop} {pc : Nat} {L : List (Nat × Value)} {v w : Value} {st : List Value} {d : zD} {a : Int} (b : Int) (h : a = b) (k : zV l x g M n Q pc L (v :: w :: zi b :: st) d) : zV l x g M n Q pc L (v :: w :: zi a :: st) d := by subst h; exact k
theorem z_dd {l : Launch} {x : zX} {g : zG} {M : zM} {n : Nat} {Q : Option Value → zD → Prop} {pc : Nat} {L : List (Nat × Value)} {st : List Value} {d : zD} (d' : zD) (h : d = d') (k : zV l x g M n Q pc L st d') : zV l x g M n Q pc L st d := by subst h; exact k
theorem z_LL {l : Launch} {x : zX} {g : zG} {M : zM} {n : Nat} {Q : Option Value → zD → Prop} {pc : Nat} {L : List (Nat × Value)} {st : List Value} {d : zD} (L' : List (Nat × Value)) (h : L = L') (k : zV l x g M n Q pc L' st d) : zV l x g M n Q pc L st d := by subst h; exact k
theorem zn (n : Nat) : Int32.ofInt (n : Int) = nI n := Int32.ofInt_eq_ofNat
theorem zsl : ∀ n, n < 32 → ((nI n &&& 31).toBitVec.smod 32).toNat = n := by decide +kernel
theorem zsu : ∀ n, n < 32 → (((nI n).toUInt32 &&& Int32.toUInt32 31).toBitVec % 32).toNat = n := by decide +kernel
theorem zshr {s m : Nat} (hs : s < 2147483648) (hm : m < 32) : Int32.ofInt (s : Int) >>> (Int32.ofInt (m : Int) &&& 31) = Int32.ofInt ((s / 2 ^ m : Nat) : Int) := by
  rw [zn, zn, zn]; exact pk_shrN (by omega) _ m (zsl m hm)
theorem zshl {s m : Nat} (hm : m < 32) (h : s * 2 ^ m < 4294967296) : Int32.ofInt (s : Int) <<< (Int32.ofInt (m : Int) &&& 31) = Int32.ofInt ((s * 2 ^ m : Nat) : Int) := by
  rw [zn, zn, zn]; exact pk_shlN _ m (zsl m hm) (by omega)
theorem zushr {s m : Nat} (hs : s < 4294967296) (hm : m < 32) : ((Int32.ofInt (s : Int)).toUInt32 >>> ((Int32.ofInt (m : Int)).toUInt32 &&& Int32.toUInt32 31)).toInt32 = Int32.ofInt ((s / 2 ^ m : Nat) : Int) := by
  rw [zn, zn, zn]; exact pk_ushrN (by omega) _ m (zsu m hm)
theorem zand (a b : Nat) : Int32.ofInt (a : Int) &&& Int32.ofInt (b : Int) = Int32.ofInt ((a &&& b : Nat) : Int) := by
  rw [zn, zn, zn]
  apply Int32.toBitVec.inj
  show BitVec.ofNat 32 a &&& BitVec.ofNat 32 b = BitVec.ofNat 32 (a &&& b)
  apply BitVec.eq_of_toNat_eq
  simp only [BitVec.toNat_and, BitVec.toNat_ofNat, Nat.and_mod_two_pow]
theorem zor (a b : Nat) : Int32.ofInt (a : Int) ||| Int32.ofInt (b : Int) = Int32.ofInt ((a ||| b : Nat) : Int) := by
  rw [zn, zn, zn]
  apply Int32.toBitVec.inj
  show BitVec.ofNat 32 a ||| BitVec.ofNat 32 b = BitVec.ofNat 32 (a ||| b)
  apply BitVec.eq_of_toNat_eq
  simp only [BitVec.toNat_or, BitVec.toNat_ofNat, Nat.or_mod_two_pow]
/-- a without what is in b -/
def nd (a b : Nat) : Nat := a ^^^ (a &&& b)
theorem nd_bit (a b i : Nat) : (nd a b).testBit i = (a.testBit i && !b.testBit i) := by
  simp only [nd, Nat.testBit_xor, Nat.testBit_and]
  cases a.testBit i <;> cases b.testBit i <;> rfl
theorem zm1 : Int32.ofInt (-1) = -1 := by rw [Int32.ofInt_neg]; rfl
theorem zxorm (a : Int) : Int32.ofInt a ^^^ Int32.ofInt (-1) = Int32.ofInt (-1 - a) := by
  rw [Int32.ofInt_sub, zm1]
  generalize Int32.ofInt a = x
  rw [← Int32.toBitVec_inj, Int32.toBitVec_xor, Int32.toBitVec_sub, Int32.toBitVec_neg, Int32.toBitVec_one, BitVec.neg_one_eq_allOnes, BitVec.allOnes_sub_eq_not, BitVec.xor_allOnes]
theorem znot (b : Nat) : (Int32.ofInt (-1 - (b : Int))).toBitVec = ~~~ (BitVec.ofNat 32 b) := by
  rw [Int32.ofInt_sub, zm1, zn, Int32.toBitVec_sub, Int32.toBitVec_neg, Int32.toBitVec_one, BitVec.neg_one_eq_allOnes, BitVec.allOnes_sub_eq_not]
  rfl
theorem zandm {a b : Nat} : Int32.ofInt (a : Int) &&& Int32.ofInt (-1 - (b : Int)) = Int32.ofInt ((nd a b : Nat) : Int) := by
  rw [← Int32.toBitVec_inj, Int32.toBitVec_and, znot, zn, zn]
  show BitVec.ofNat 32 a &&& ~~~ (BitVec.ofNat 32 b) = BitVec.ofNat 32 (nd a b)
  apply BitVec.eq_of_getLsbD_eq
  intro i hi
  simp only [BitVec.getLsbD_and, BitVec.getLsbD_not, BitVec.getLsbD_ofNat, hi, decide_true, Bool.true_and, nd_bit]
theorem zbit1 (s m : Nat) : s / 2 ^ m &&& 1 = if s.testBit m then 1 else 0 := by
  rw [Nat.and_one_is_mod, Nat.testBit_eq_decide_div_mod_eq]
  have := Nat.mod_two_eq_zero_or_one (s / 2 ^ m)
  rcases this with h | h <;> simp [h]
theorem or_bit1 (s m i : Nat) : (s ||| 2 ^ m).testBit i = (s.testBit i || decide (m = i)) := by
  rw [Nat.testBit_or, Nat.testBit_two_pow]
theorem lt_of_bits {n k : Nat} (h : ∀ i, k ≤ i → n.testBit i = false) : n < 2 ^ k := by
  apply Nat.lt_pow_two_of_testBit
  exact h
theorem bit_lt {n k i : Nat} (h : n < 2 ^ k) (hi : k ≤ i) : n.testBit i = false :=
  Nat.testBit_lt_two_pow (Nat.lt_of_lt_of_le h (Nat.pow_le_pow_right (by omega) hi))
theorem or_lt {a b k : Nat} (ha : a < 2 ^ k) (hb : b < 2 ^ k) : a ||| b < 2 ^ k := Nat.or_lt_two_pow ha hb
theorem nd_lt {a b k : Nat} (ha : a < 2 ^ k) : nd a b < 2 ^ k := lt_of_bits (fun i hi => by rw [nd_bit, bit_lt ha hi]; rfl)
