/-! Integer.bitCount -/
def pcN (n : Nat) : Nat → Nat
  | 0 => 0
  | k + 1 => pcN n k + (if n.testBit k = true then 1 else 0)
def bcA (M n : Nat) : Nat := n - ((n / 2) &&& M)
def bcB (M n : Nat) : Nat := (n &&& M) + ((n / 4) &&& M)
def bcC (M n : Nat) : Nat := (n + n / 16) &&& M
theorem and_split (x m M : Nat) (hm : m < 256) : x &&& (m + 256 * M) = (x % 256 &&& m) + 256 * (x / 256 &&& M) := by
  have h1 : x % 256 &&& m < 2 ^ 8 := Nat.lt_of_le_of_lt Nat.and_le_right hm
  apply Nat.eq_of_testBit_eq
  intro i
  rw [Nat.add_comm (x % 256 &&& m), show (256 : Nat) = 2 ^ 8 from rfl, Nat.testBit_two_pow_mul_add _ h1, Nat.testBit_and, Nat.add_comm m, Nat.testBit_two_pow_mul_add _ hm]
  split
  · rename_i hi
    have e : (x % 256).testBit i = x.testBit i := by rw [show (256 : Nat) = 2 ^ 8 from rfl, Nat.testBit_mod_two_pow]; simp [hi]
    rw [Nat.testBit_and, e]
  · rename_i hi
    rw [Nat.testBit_and, Nat.testBit_div_two_pow, show i - 8 + 8 = i by omega]
theorem bcA_d : ∀ a, a < 256 → ∀ c, c < 2 → (a / 2 + 128 * c) &&& 85 = (a / 2) &&& 85 := by decide +kernel
theorem bcB_d : ∀ a, a < 256 → ∀ c, c < 4 → (a / 4 + 64 * c) &&& 51 = (a / 4) &&& 51 := by decide +kernel
theorem bcC_d : ∀ a, a < 256 → ∀ c, c < 16 → (a + 16 * c) % 256 &&& 15 = a &&& 15 := by decide +kernel
theorem bcA_s (a b M : Nat) (ha : a < 256) : bcA (85 + 256 * M) (a + 256 * b) = bcA 85 a + 256 * bcA M b := by
  unfold bcA
  have e1 : (a + 256 * b) / 2 % 256 = a / 2 + 128 * (b % 2) := by omega
  have e2 : (a + 256 * b) / 2 / 256 = b / 2 := by omega
  rw [and_split _ _ _ (by omega), e1, e2, bcA_d a ha (b % 2) (by omega)]
  have h1 : (a / 2) &&& 85 ≤ a / 2 := Nat.and_le_left
  have h2 : (b / 2) &&& M ≤ b / 2 := Nat.and_le_left
  omega
theorem bcB_s (a b M : Nat) (ha : a < 256) : bcB (51 + 256 * M) (a + 256 * b) = bcB 51 a + 256 * bcB M b := by
  unfold bcB
  have e1 : (a + 256 * b) / 4 % 256 = a / 4 + 64 * (b % 4) := by omega
  have e2 : (a + 256 * b) / 4 / 256 = b / 4 := by omega
  have e3 : (a + 256 * b) % 256 = a := by omega
  have e4 : (a + 256 * b) / 256 = b := by omega
  rw [and_split _ _ _ (by omega), and_split _ _ _ (by omega), e1, e2, e3, e4, bcB_d a ha (b % 4) (by omega)]
  omega
theorem bcC_s (a b M : Nat) (ha : a + a / 16 < 128) (hb : b % 16 ≤ 4) : bcC (15 + 256 * M) (a + 256 * b) = bcC 15 a + 256 * bcC M b := by
  unfold bcC
  have e1 : (a + 256 * b + (a + 256 * b) / 16) % 256 = ((a + a / 16) + 16 * (b % 16)) % 256 := by omega
  have e2 : (a + 256 * b + (a + 256 * b) / 16) / 256 = b + b / 16 := by omega
  rw [and_split _ _ _ (by omega), e1, e2, bcC_d (a + a / 16) (by omega) (b % 16) (by omega)]
theorem bc_byte : ∀ a, a < 256 → bcC 15 (bcB 51 (bcA 85 a)) = pcN a 8 ∧ bcB 51 (bcA 85 a) + bcB 51 (bcA 85 a) / 16 < 128 ∧ bcB 51 (bcA 85 a) % 16 ≤ 4 ∧ bcA 85 a < 256 ∧ pcN a 8 ≤ 8 := by decide +kernel
theorem pcN_mod (n : Nat) : ∀ k, k ≤ 8 → pcN n k = pcN (n % 256) k
  | 0, _ => rfl
  | k + 1, hk => by
    rw [pcN, pcN, pcN_mod n k (by omega), show (256 : Nat) = 2 ^ 8 from rfl, Nat.testBit_mod_two_pow, decide_eq_true (show k < 8 by omega), Bool.true_and]
theorem pcN_add (n : Nat) : ∀ k, pcN n (k + 8) = pcN (n % 256) 8 + pcN (n / 256) k
  | 0 => by rw [Nat.zero_add, pcN_mod n 8 (Nat.le_refl _)]; rfl
  | k + 1 => by
    rw [show k + 1 + 8 = (k + 8) + 1 by omega, pcN, pcN_add n k, pcN.eq_2 (n / 256) k, show (256 : Nat) = 2 ^ 8 from rfl, Nat.testBit_div_two_pow]
    omega
theorem bc_sum (A B C E : Nat) (hA : A ≤ 8) (hB : B ≤ 8) (hC : C ≤ 8) (hE : E ≤ 8) : (A + 256 * (B + 256 * (C + 256 * E)) + (A + 256 * (B + 256 * (C + 256 * E))) / 256 + (A + 256 * (B + 256 * (C + 256 * E)) + (A + 256 * (B + 256 * (C + 256 * E))) / 256) / 65536) % 2 ^ 6 = A + (B + (C + E)) := by
  have e1 : (A + 256 * (B + 256 * (C + 256 * E))) / 256 = B + 256 * (C + 256 * E) := by omega
  have e2 : (A + 256 * (B + 256 * (C + 256 * E)) + (B + 256 * (C + 256 * E))) / 65536 = C + E + 256 * E := by omega
  rw [e1, e2]
  omega
def bcF (n : Nat) : Nat :=
  let x3 := bcC 252645135 (bcB 858993459 (bcA 1431655765 n))
  ((x3 + x3 / 256) + (x3 + x3 / 256) / 65536) &&& 63
theorem bcF_eq {n : Nat} (hn : n < 4294967296) : bcF n = pcN n 32 ∧ bcC 252645135 (bcB 858993459 (bcA 1431655765 n)) ≤ 8 + 256 * (8 + 256 * (8 + 256 * 8)) := by
  obtain ⟨a, ha⟩ : ∃ a, a = n % 256 := ⟨_, rfl⟩
  obtain ⟨b, hb⟩ : ∃ b, b = n / 256 % 256 := ⟨_, rfl⟩
  obtain ⟨c, hc⟩ : ∃ c, c = n / 256 / 256 % 256 := ⟨_, rfl⟩
  obtain ⟨e, he⟩ : ∃ e, e = n / 256 / 256 / 256 := ⟨_, rfl⟩
  have hn2 : n = a + 256 * (b + 256 * (c + 256 * e)) := by omega
  have p1 := bc_byte a (by omega)
  have p2 := bc_byte b (by omega)
  have p3 := bc_byte c (by omega)
  have p4 := bc_byte e (by omega)
  have key : bcC 252645135 (bcB 858993459 (bcA 1431655765 n)) = pcN a 8 + 256 * (pcN b 8 + 256 * (pcN c 8 + 256 * pcN e 8)) := by
    rw [hn2, show (1431655765 : Nat) = 85 + 256 * (85 + 256 * (85 + 256 * 85)) from rfl, bcA_s a _ _ (by omega), bcA_s b _ _ (by omega), bcA_s c _ _ (by omega),
      show (858993459 : Nat) = 51 + 256 * (51 + 256 * (51 + 256 * 51)) from rfl, bcB_s _ _ _ p1.2.2.2.1, bcB_s _ _ _ p2.2.2.2.1, bcB_s _ _ _ p3.2.2.2.1,
      show (252645135 : Nat) = 15 + 256 * (15 + 256 * (15 + 256 * 15)) from rfl, bcC_s _ _ _ p1.2.1 (by omega), bcC_s _ _ _ p2.2.1 (by omega), bcC_s _ _ _ p3.2.1 p4.2.2.1, p1.1, p2.1, p3.1, p4.1]
  have pn : pcN n 32 = pcN a 8 + (pcN b 8 + (pcN c 8 + pcN e 8)) := by
    have q1 : pcN n 32 = pcN (n % 256) 8 + pcN (n / 256) 24 := pcN_add n 24
    have q2 : pcN (n / 256) 24 = pcN (n / 256 % 256) 8 + pcN (n / 256 / 256) 16 := pcN_add (n / 256) 16
    have q3 : pcN (n / 256 / 256) 16 = pcN (n / 256 / 256 % 256) 8 + pcN (n / 256 / 256 / 256) 8 := pcN_add (n / 256 / 256) 8
    rw [q1, q2, q3, ← ha, ← hb, ← hc, ← he]
  refine ⟨?_, by rw [key]; omega⟩
  rw [pn]
  unfold bcF
  rw [key]
  rw [show (63 : Nat) = 2 ^ 6 - 1 from rfl, Nat.and_two_pow_sub_one_eq_mod]
  exact bc_sum _ _ _ _ p1.2.2.2.2 p2.2.2.2.2 p3.2.2.2.2 p4.2.2.2.2
theorem t_bitCount (l : Launch) {g : zG} (hg : zAmOk g) (d : zD) {a : Nat} (ha : a < 4294967296) : zC l g mJ6_bitCount_0f7a4 1 [zi (a : Int)] d (zpu (zi (pcN a 32 : Nat)) d) := by
  have hb := bcF_eq ha
  have c1 : Cond.constant RJ6 265 (Int32.ofInt 1431655765) ∈ zTB := zTB_of (by decide +kernel) rfl
  have c2 : Cond.constant RJ6 266 (Int32.ofInt 858993459) ∈ zTB := zTB_of (by decide +kernel) rfl
  have c3 : Cond.constant RJ6 267 (Int32.ofInt 252645135) ∈ zTB := zTB_of (by decide +kernel) rfl
  have l1 : (a / 2 &&& 1431655765) ≤ a / 2 := Nat.and_le_left
  have l2 : (bcA 1431655765 a &&& 858993459) ≤ 858993459 := Nat.and_le_right
  have l3 : (bcA 1431655765 a / 4 &&& 858993459) ≤ 858993459 := Nat.and_le_right
  have l4 : bcA 1431655765 a ≤ a := by unfold bcA; omega
  have l5 : bcB 858993459 (bcA 1431655765 a) ≤ 1717986918 := by unfold bcB; omega
  have l6 := hb.2
  refine zC_of (L := [(0, _)]) mk_J6_bitCount_0f7a4 (Nat.le_of_ble_eq_true rfl) hg rfl (fun x => ?_)
  refine z_iload_n 0 dJ6_bitCount_0f7a4_0 rfl rfl ?_
  refine z_iload_n 0 dJ6_bitCount_0f7a4_1 rfl rfl ?_
  refine z_iconst dJ6_bitCount_0f7a4_2 ?_
  refine z_iushr _ (zushr (s := a) (m := 1) (by omega) (by omega)) dJ6_bitCount_0f7a4_3 ?_
  refine z_ldcw (v := 1431655765) c1 dJ6_bitCount_0f7a4_4 ?_
  refine z_iand _ (zand (a / 2 ^ 1) 1431655765) dJ6_bitCount_0f7a4_7 ?_
  refine z_isub dJ6_bitCount_0f7a4_8 ?_
  refine z_top ((bcA 1431655765 a : Nat) : Int) (by unfold bcA; rw [show (2 : Nat) ^ 1 = 2 from rfl]; omega) ?_
  refine z_istore_n (L' := [(0, _)]) dJ6_bitCount_0f7a4_9 rfl (by decide) rfl rfl ?_
  refine z_iload_n 0 dJ6_bitCount_0f7a4_10 rfl rfl ?_
  refine z_ldcw (v := 858993459) c2 dJ6_bitCount_0f7a4_11 ?_
  refine z_iand _ (zand (bcA 1431655765 a) 858993459) dJ6_bitCount_0f7a4_14 ?_
  refine z_iload_n 0 dJ6_bitCount_0f7a4_15 rfl rfl ?_
  refine z_iconst dJ6_bitCount_0f7a4_16 ?_
  refine z_iushr _ (zushr (s := bcA 1431655765 a) (m := 2) (by omega) (by omega)) dJ6_bitCount_0f7a4_17 ?_
  refine z_ldcw (v := 858993459) c2 dJ6_bitCount_0f7a4_18 ?_
  refine z_iand _ (zand (bcA 1431655765 a / 2 ^ 2) 858993459) dJ6_bitCount_0f7a4_21 ?_
  refine z_iadd dJ6_bitCount_0f7a4_22 ?_
  refine z_top ((bcB 858993459 (bcA 1431655765 a) : Nat) : Int) (by unfold bcB; rw [show (2 : Nat) ^ 2 = 4 from rfl]; omega) ?_
  refine z_istore_n (L' := [(0, _)]) dJ6_bitCount_0f7a4_23 rfl (by decide) rfl rfl ?_
  refine z_iload_n 0 dJ6_bitCount_0f7a4_24 rfl rfl ?_
  refine z_iload_n 0 dJ6_bitCount_0f7a4_25 rfl rfl ?_
  refine z_iconst dJ6_bitCount_0f7a4_26 ?_
  refine z_iushr _ (zushr (s := bcB 858993459 (bcA 1431655765 a)) (m := 4) (by omega) (by omega)) dJ6_bitCount_0f7a4_27 ?_
  refine z_iadd dJ6_bitCount_0f7a4_28 ?_
  refine z_ldcw (v := 252645135) c3 dJ6_bitCount_0f7a4_29 ?_
  refine z_top2 ((bcB 858993459 (bcA 1431655765 a) + bcB 858993459 (bcA 1431655765 a) / 16 : Nat) : Int) (by rw [show (2 : Nat) ^ 4 = 16 from rfl]; omega) ?_
  refine z_iand _ (zand (bcB 858993459 (bcA 1431655765 a) + bcB 858993459 (bcA 1431655765 a) / 16) 252645135) dJ6_bitCount_0f7a4_32 ?_
  refine z_top ((bcC 252645135 (bcB 858993459 (bcA 1431655765 a)) : Nat) : Int) (by unfold bcC; rfl) ?_
  generalize hx3 : bcC 252645135 (bcB 858993459 (bcA 1431655765 a)) = x3 at *
  refine z_istore_n (L' := [(0, _)]) dJ6_bitCount_0f7a4_33 rfl (by decide) rfl rfl ?_
  refine z_iload_n 0 dJ6_bitCount_0f7a4_34 rfl rfl ?_
  refine z_iload_n 0 dJ6_bitCount_0f7a4_35 rfl rfl ?_
  refine z_bipush dJ6_bitCount_0f7a4_36 (by decide) ?_
  refine z_iushr _ (zushr (s := x3) (m := 8) (by omega) (by omega)) dJ6_bitCount_0f7a4_38 ?_
  refine z_iadd dJ6_bitCount_0f7a4_39 ?_
  refine z_top ((x3 + x3 / 256 : Nat) : Int) (by rw [show (2 : Nat) ^ 8 = 256 from rfl]; omega) ?_
  refine z_istore_n (L' := [(0, _)]) dJ6_bitCount_0f7a4_40 rfl (by decide) rfl rfl ?_
  refine z_iload_n 0 dJ6_bitCount_0f7a4_41 rfl rfl ?_
  refine z_iload_n 0 dJ6_bitCount_0f7a4_42 rfl rfl ?_
  refine z_bipush dJ6_bitCount_0f7a4_43 (by decide) ?_
  refine z_iushr _ (zushr (s := x3 + x3 / 256) (m := 16) (by omega) (by omega)) dJ6_bitCount_0f7a4_45 ?_
  refine z_iadd dJ6_bitCount_0f7a4_46 ?_
  refine z_top (((x3 + x3 / 256) + (x3 + x3 / 256) / 65536 : Nat) : Int) (by rw [show (2 : Nat) ^ 16 = 65536 from rfl]; omega) ?_
  refine z_istore_n (L' := [(0, _)]) dJ6_bitCount_0f7a4_47 rfl (by decide) rfl rfl ?_
  refine z_iload_n 0 dJ6_bitCount_0f7a4_48 rfl rfl ?_
  refine z_bipush dJ6_bitCount_0f7a4_49 (by decide) ?_
  refine z_iand _ (zand ((x3 + x3 / 256) + (x3 + x3 / 256) / 65536) 63) dJ6_bitCount_0f7a4_51 ?_
  exact z_iret rfl dJ6_bitCount_0f7a4_52 (zret_i (by rw [← hb.1, bcF, hx3]))
