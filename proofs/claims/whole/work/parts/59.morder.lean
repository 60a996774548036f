/-! the reference: order, tell, small calls -/
theorem sdg {a : Int} {k : Nat} (hk : k ≤ 28) : (Int32.ofInt a >>> (Int32.ofInt (k : Int) &&& 31)) &&& Int32.ofInt 15 = Int32.ofInt (((a % 4294967296).toNat / 2 ^ k % 16 : Nat) : Int) := by
  have hz : Int32.ofInt a = nI (a % 4294967296).toNat := by
    have := zi_u a
    unfold zi at this
    rw [← zn]
    exact Value.int.inj this
  have b15 : ∀ i, i < 32 → bt (Int32.ofInt 15) i = decide (i < 4) := by decide +kernel
  rw [hz, zn, zn]
  apply b_ext
  intro i hi
  rw [b_and, b_sshr k (by omega) _ hi, b15 i hi, bt_nI _ hi]
  rw [show (16 : Nat) = 2 ^ 4 from rfl, Nat.testBit_mod_two_pow, Nat.testBit_div_two_pow]
  by_cases e : i < 4
  · rw [if_pos (by omega), bt_nI _ (by omega), Nat.add_comm]
    simp [e]
  · simp [e]
theorem rowN_s {f : Nat → Nat} {k : Nat} (h : ∀ i, i < k → f i < 16) : rowN f (k + 1) = rowN f k + f k * 2 ^ (4 * k) := by
  have := Nat.shiftLeft_add_eq_or_of_lt (rowN_lt k h) (f k)
  rw [Nat.shiftLeft_eq] at this
  rw [rowN, Nat.or_comm, ← this, Nat.add_comm]
theorem dig_lo {r c i k : Nat} (hi : i < k) : dig (r + c * 2 ^ (4 * k)) i = dig r i := by
  unfold dig
  rw [show 4 * k = 4 * i + (4 + 4 * (k - i - 1)) by omega, Nat.pow_add, Nat.pow_add, show c * (2 ^ (4 * i) * (2 ^ 4 * 2 ^ (4 * (k - i - 1)))) = 2 ^ (4 * i) * (16 * (c * 2 ^ (4 * (k - i - 1)))) by
    rw [show (2 : Nat) ^ 4 = 16 from rfl]
    rw [Nat.mul_left_comm, Nat.mul_left_comm c 16]]
  rw [Nat.add_mul_div_left _ _ (Nat.two_pow_pos _), Nat.add_mul_mod_self_left]
theorem dig_hi {r c k : Nat} (hr : r < 2 ^ (4 * k)) (hc : c < 16) : dig (r + c * 2 ^ (4 * k)) k = c := by
  unfold dig
  rw [Nat.mul_comm, Nat.add_mul_div_left _ _ (Nat.two_pow_pos _), Nat.div_eq_of_lt hr, Nat.zero_add, Nat.mod_eq_of_lt hc]
theorem dig_row {f : Nat → Nat} : ∀ n, (∀ i, i < n → f i < 16) → ∀ i, i < n → dig (rowN f n) i = f i
  | 0, _, i, hi => absurd hi (by omega)
  | n + 1, h, i, hi => by
    rw [rowN_s (fun i hi => h i (by omega))]
    by_cases e : i = n
    · subst e; exact dig_hi (rowN_lt i (fun j hj => h j (by omega))) (h i hi)
    · rw [dig_lo (by omega)]; exact dig_row n (fun i hi => h i (by omega)) i (by omega)
theorem row_dig (x : Nat) : ∀ k, rowN (dig x) k = x % 2 ^ (4 * k)
  | 0 => by simp [rowN, Nat.mod_one]
  | k + 1 => by
    rw [rowN_s (f := dig x) (fun i _ => Nat.mod_lt _ (by decide)), row_dig x k, dig, show 4 * (k + 1) = 4 * k + 4 by omega, Nat.pow_add, Nat.mod_mul, show (2 : Nat) ^ 4 = 16 from rfl, Nat.mul_comm (2 ^ (4 * k)) (x / 2 ^ (4 * k) % 16)]
theorem rowN_cong {f g : Nat → Nat} : ∀ k, (∀ i, i < k → f i = g i) → rowN f k = rowN g k
  | 0, _ => rfl
  | k + 1, h => by rw [rowN, rowN, rowN_cong k (fun i hi => h i (by omega)), h k (by omega)]
def nwN (x : Nat) (ord : Nat → Nat) : Nat → Bool
  | 0 => false
  | k + 1 => nwN x ord k || !decide (dig x k = ord k)
theorem nwN_f {x : Nat} {ord : Nat → Nat} : ∀ k, nwN x ord k = false ↔ ∀ i, i < k → dig x i = ord i
  | 0 => ⟨fun _ i hi => absurd hi (by omega), fun _ => rfl⟩
  | k + 1 => by
    rw [nwN, Bool.or_eq_false_iff, nwN_f k, Bool.not_eq_false', decide_eq_true_eq]
    constructor
    · rintro ⟨h1, h2⟩ i hi
      by_cases e : i = k
      · rw [e]; exact h2
      · exact h1 i (by omega)
    · intro h1
      exact ⟨fun i hi => h1 i (by omega), h1 k (by omega)⟩
theorem nwN_row {x n : Nat} {ord : Nat → Nat} (hx : x < 2 ^ (4 * n)) (ho : ∀ i, i < n → ord i < 16) : nwN x ord n = !decide (x = rowN ord n) := by
  cases hb : nwN x ord n with
  | false =>
    have h1 := (nwN_f n).mp hb
    rw [decide_eq_true]
    · rfl
    · rw [← rowN_cong n h1, row_dig, Nat.mod_eq_of_lt hx]
  | true =>
    rw [decide_eq_false]
    · rfl
    · intro e
      have h1 : nwN x ord n = false := (nwN_f n).mpr (fun i hi => by rw [e]; exact dig_row n ho i hi)
      rw [hb] at h1
      cases h1
theorem shr0 {a : Nat} (ha : a < 2147483648) {k : Nat} : a / 2 ^ k = 0 ↔ a < 2 ^ k := by rw [Nat.div_eq_zero_iff]; have := Nat.two_pow_pos k; omega
theorem t8_order (l : Launch) {g : zG} (hg : zAmOk g) {d : zD} {h : Hl} {ord : Nat → Nat} {tl : Nat} {tp : Nat → Nat} {fl : Int} (I : IM d h ord tl tp fl) {a : Int} (ha : zin a) : zC l g mX8_order 4 [zr g 37, zi a] d (anM d h (if takesB h ord a = true then dig a.toNat else ord) tl tp fl (zb (takesB h ord a))) := by
  obtain ⟨w, H, O, T, hfl, ho⟩ := id I
  have w3 := w.2.2.1
  have hpw : 2 ^ (4 * hN h) ≤ 16777216 := Nat.pow_le_pow_right (n := 2) (by decide) (show 4 * hN h ≤ 24 by omega)
  have ho16 : ∀ i, i < hN h → ord i < 16 := fun i hi => by have := ho.1 i hi; omega
  have key3 : ∀ (x : zX) (r k : Nat) (d1 : zD), takesB h ord a = true → zF [37, 56, 58] d d1 → (∀ i, i ≠ 0 → d1 37 i = d 37 i) → RW d1 (dig a.toNat) (hN h) → (∀ i, i < k → d1 56 i = dig a.toNat i) → k ≤ hN h → hN h - k < r → zV l x g mX8_order 4 (anM d h (if takesB h ord a = true then dig a.toNat else ord) tl tp fl (zb (takesB h ord a))) 96 [(0, zr g 37), (1, zi a), (2, zi (zb true)), (3, zi (k : Int))] [] d1 := by
    intro x r
    induction r with
    | zero => intro k d1 h1 h2 h3 h4 h5 h6 hr; omega
    | succ r ih =>
      intro k d1 ht F e37 R e56 hk hr
      have H1 : HM d1 h := HMg.of H (fun p hp => F p (by simp; omega))
      have h1 : d1 38 1 = hN h := H1.1.2.1
      refine z_iload_n 3 dX8_order_96 rfl rfl ?_
      refine z_aload_n 0 dX8_order_97 rfl rfl ?_
      refine z_getr fl_RX8_7 (by decide) rfl rfl dX8_order_98 ?_
      refine z_iconst dX8_order_101 ?_
      refine z_iald 1 (by decide) rfl rfl (by decide) (by decide) dX8_order_102 ?_
      rw [h1]
      refine z_icmp_ge 124 (by omega) (by omega) dX8_order_103 (by decide) (fun h_103 => ?_) (fun h_103 => ?_)
      · refine z_iconst dX8_order_124 ?_
        have hgo : goodO h (dig a.toNat) = true := by have ht' := ht; rw [takesB, Bool.and_eq_true, rowOk, Bool.and_eq_true] at ht'; exact ht'.2.2
        exact z_bret (b := true) rfl dX8_order_125 (⟨by rw [ht], MF.of F (by decide), w, H1, by rw [if_pos ht]; exact fun i hi => e56 i (by omega), T.of (e37 21 (by decide)) (F 57 (by decide)), by rw [e37 22 (by decide)]; exact hfl, by rw [if_pos ht]; exact good_Ord hgo⟩)
      · refine z_aload_n 0 dX8_order_106 rfl rfl ?_
        refine z_getr fl_RX8_64 (by decide) rfl rfl dX8_order_107 ?_
        refine z_iload_n 3 dX8_order_110 rfl rfl ?_
        refine z_aload_n 0 dX8_order_111 rfl rfl ?_
        refine z_getr fl_RX8_70 (by decide) rfl rfl dX8_order_112 ?_
        refine z_iload_n 3 dX8_order_115 rfl rfl ?_
        refine z_iald _ (by decide) rfl rfl (by omega) (by decide) dX8_order_116 ?_
        rw [R k (by omega)]
        refine z_iast _ (by decide) rfl rfl (by omega) (by decide) dX8_order_117 ?_
        refine z_iinc 3 (L' := [(0, _), (1, _), (2, _), (3, _)]) dX8_order_118 (by decide) rfl rfl rfl ?_
        refine z_goto 96 dX8_order_121 (by decide) ?_
        refine ih (k + 1) _ ht (F.up (by decide)) (fun i hi => by rw [zu_ne (by decide)]; exact e37 i hi) (R.of (zu_ne (by decide))) (fun i hi => ?_) (by omega) (by omega)
        rw [zu_row]
        split
        · rename_i e; rw [e]
        · exact e56 i (by omega)
  have hno : ∀ (d1 : zD), takesB h ord a = false → zF [37, 58] d d1 → (∀ i, i ≠ 0 → d1 37 i = d 37 i) → anM d h (if takesB h ord a = true then dig a.toNat else ord) tl tp fl (zb (takesB h ord a)) (some (zi (zb false))) d1 := fun d1 ht F e37 => ⟨by rw [ht], MF.of F (by decide), by rw [ht]; exact I.of F (by decide) (e37 21 (by decide)) (e37 22 (by decide))⟩
  have key1 : ∀ (x : zX) (r k : Nat) (d1 : zD), zF [37, 58] d d1 → (∀ i, i ≠ 0 → d1 37 i = d 37 i) → RW d1 (dig (a % 4294967296).toNat) k → k ≤ hN h → hN h - k < r → zV l x g mX8_order 4 (anM d h (if takesB h ord a = true then dig a.toNat else ord) tl tp fl (zb (takesB h ord a))) 9 [(0, zr g 37), (1, zi a), (2, zi (zb (nwN (a % 4294967296).toNat ord k))), (3, zi (k : Int))] [] d1 := by
    intro x r
    induction r with
    | zero => intro k d1 h1 h2 h3 h4 hr; omega
    | succ r ih =>
      intro k d1 F e37 R hk hr
      have H1 : HM d1 h := HM.of H F (by decide)
      have h1 : d1 38 1 = hN h := H1.1.2.1
      refine z_iload_n 3 dX8_order_9 rfl rfl ?_
      refine z_aload_n 0 dX8_order_10 rfl rfl ?_
      refine z_getr fl_RX8_7 (by decide) rfl rfl dX8_order_11 ?_
      refine z_iconst dX8_order_14 ?_
      refine z_iald 1 (by decide) rfl rfl (by decide) (by decide) dX8_order_15 ?_
      rw [h1]
      refine z_icmp_ge 64 (by omega) (by omega) dX8_order_16 (by decide) (fun h_16 => ?_) (fun h_16 => ?_)
      · have hkN : k = hN h := by omega
        subst hkN
        refine z_iload_n 1 dX8_order_64 rfl rfl ?_
        refine z_if_lt 92 (by omega) dX8_order_65 (by decide) (fun h_65 => ?_) (fun h_65 => ?_)
        · refine z_iconst dX8_order_92 ?_
          have ht : takesB h ord a = false := by rw [takesB, rowOk, decide_eq_false (show ¬ (0 ≤ a ∧ a < ((2 ^ (4 * hN h) : Nat) : Int)) by omega), Bool.false_and, Bool.and_false]
          exact z_bret (b := false) rfl dX8_order_93 (hno d1 ht F e37)
        · have ea : a = ((a.toNat : Nat) : Int) := by omega
          have eu : (a % 4294967296).toNat = a.toNat := by omega
          refine z_iload_n 1 dX8_order_68 rfl rfl ?_
          refine z_iconst dX8_order_69 ?_
          refine z_aload_n 0 dX8_order_70 rfl rfl ?_
          refine z_getr fl_RX8_7 (by decide) rfl rfl dX8_order_71 ?_
          refine z_iconst dX8_order_74 ?_
          refine z_iald 1 (by decide) rfl rfl (by decide) (by decide) dX8_order_75 ?_
          refine z_imul dX8_order_76 ?_
          rw [h1]
          refine z_top ((4 * hN h : Nat) : Int) (by omega) ?_
          refine z_topv2 (zi ((a.toNat : Nat) : Int)) (by rw [← ea]) ?_
          refine z_ishr _ (zshr (s := a.toNat) (m := 4 * hN h) (by omega) (by omega)) dX8_order_77 ?_
          have hdl : a.toNat / 2 ^ (4 * hN h) ≤ a.toNat := Nat.div_le_self _ _
          have hz := shr0 (a := a.toNat) (by omega) (k := 4 * hN h)
          generalize a.toNat / 2 ^ (4 * hN h) = G at hdl hz ⊢
          refine z_if_ne 92 (by omega) dX8_order_78 (by decide) (fun h_78 => ?_) (fun h_78 => ?_)
          · refine z_iconst dX8_order_92 ?_
            have ht : takesB h ord a = false := by rw [takesB, rowOk, decide_eq_false (show ¬ (0 ≤ a ∧ a < ((2 ^ (4 * hN h) : Nat) : Int)) by omega), Bool.false_and, Bool.and_false]
            exact z_bret (b := false) rfl dX8_order_93 (hno d1 ht F e37)
          · refine z_iload_n 2 dX8_order_81 rfl rfl ?_
            refine z_if_eq_b 92 dX8_order_82 (by decide) (fun h_82 => ?_) (fun h_82 => ?_)
            · refine z_iconst dX8_order_92 ?_
              have ht : takesB h ord a = false := by
                have z := nwN_row (n := hN h) (ord := ord) (show (a % 4294967296).toNat < 2 ^ (4 * hN h) by omega) ho16
                rw [h_82] at z
                rw [takesB, show decide (a = ((rowN ord (hN h) : Nat) : Int)) = true from decide_eq_true (by have := of_decide_eq_true (show decide ((a % 4294967296).toNat = rowN ord (hN h)) = true by revert z; cases decide ((a % 4294967296).toNat = rowN ord (hN h)) <;> simp); omega)]
                rfl
              exact z_bret (b := false) rfl dX8_order_93 (hno d1 ht F e37)
            · refine z_aload_n 0 dX8_order_85 rfl rfl ?_
              refine z_cv (t8_isGood l hg w H1 R (fun i hi => Nat.lt_of_lt_of_le (Nat.mod_lt _ (by decide)) (by decide))) mk_X8_isGood mi_X8_isGood ml_RX8_233 (by omega) (by decide) rfl rfl rfl rfl (Nat.le_of_ble_eq_true rfl) dX8_order_86 (zpure ?_)
              refine z_if_ne_b 94 dX8_order_89 (by decide) (fun h_89 => ?_) (fun h_89 => ?_)
              · refine z_iconst dX8_order_94 ?_
                refine z_istore_n (L' := [(0, _), (1, _), (2, _), (3, _)]) dX8_order_95 rfl (by decide) rfl rfl ?_
                have hgo : goodO h (dig a.toNat) = true := by rw [← eu]; exact h_89
                have hne : ¬ a = ((rowN ord (hN h) : Nat) : Int) := fun y => by
                  have z := nwN_row (n := hN h) (ord := ord) (show (a % 4294967296).toNat < 2 ^ (4 * hN h) by omega) ho16
                  rw [h_82, decide_eq_true (show (a % 4294967296).toNat = rowN ord (hN h) by omega)] at z
                  cases z
                have ht : takesB h ord a = true := by
                  rw [takesB, rowOk, hgo, decide_eq_true (show 0 ≤ a ∧ a < ((2 ^ (4 * hN h) : Nat) : Int) by omega), decide_eq_false hne]
                  rfl
                rw [h_82]
                exact key3 x (hN h + 1) 0 _ ht (F.mono (by decide)) e37 (by rw [← eu]; exact R) (fun i hi => absurd hi (by omega)) (by omega) (by omega)
              · have hgo : goodO h (dig a.toNat) = false := by rw [← eu]; exact h_89
                refine z_iconst dX8_order_92 ?_
                have ht : takesB h ord a = false := by rw [takesB, rowOk, hgo, Bool.and_false, Bool.and_false]
                exact z_bret (b := false) rfl dX8_order_93 (hno d1 ht F e37)
      · refine z_aload_n 0 dX8_order_19 rfl rfl ?_
        refine z_getr fl_RX8_70 (by decide) rfl rfl dX8_order_20 ?_
        refine z_iload_n 3 dX8_order_23 rfl rfl ?_
        refine z_iload_n 1 dX8_order_24 rfl rfl ?_
        refine z_iconst dX8_order_25 ?_
        refine z_iload_n 3 dX8_order_26 rfl rfl ?_
        refine z_imul dX8_order_27 ?_
        refine z_top ((4 * k : Nat) : Int) (by omega) ?_
        refine z_ishr ((Int32.ofInt a >>> (Int32.ofInt ((4 * k : Nat) : Int) &&& 31)).toInt) (Int32.ofInt_toInt _).symm dX8_order_28 ?_
        refine z_bipush dX8_order_29 (by decide) ?_
        refine z_iand ((dig (a % 4294967296).toNat k : Nat) : Int) (by rw [Int32.ofInt_toInt]; exact sdg (by omega)) dX8_order_31 ?_
        refine z_iast _ (by decide) rfl rfl (by omega) (by decide) dX8_order_32 ?_
        have hd16 : dig (a % 4294967296).toNat k < 16 := Nat.mod_lt _ (by decide)
        have ok := ho.1 k (by omega)
        refine z_iload_n 2 dX8_order_33 rfl rfl ?_
        refine z_if_ne_b 52 dX8_order_34 (by decide) (fun h_34 => ?_) (fun h_34 => ?_)
        · refine z_iconst dX8_order_52 ?_
          refine z_goto 57 dX8_order_53 (by decide) ?_
          rw [show (1 : Int) = zb (nwN (a % 4294967296).toNat ord (k + 1)) by rw [nwN, h_34]; rfl]
          refine z_istore_n (L' := [(0, _), (1, _), (2, _), (3, _)]) dX8_order_57 rfl (by decide) rfl rfl ?_
          refine z_iinc 3 (L' := [(0, _), (1, _), (2, _), (3, _)]) dX8_order_58 (by decide) rfl rfl rfl ?_
          refine z_goto 9 dX8_order_61 (by decide) ?_
          refine ih (k + 1) _ (F.up (by decide)) (fun i hi => by rw [zu_ne (by decide)]; exact e37 i hi) (fun i hi => ?_) (by omega) (by omega)
          rw [zu_row]
          split
          · rename_i e; rw [e]
          · exact R i (by omega)
        · refine z_aload_n 0 dX8_order_37 rfl rfl ?_
          refine z_getr fl_RX8_70 (by decide) rfl rfl dX8_order_38 ?_
          refine z_iload_n 3 dX8_order_41 rfl rfl ?_
          refine z_iald _ (by decide) rfl rfl (by omega) (by decide) dX8_order_42 ?_
          refine z_aload_n 0 dX8_order_43 rfl rfl ?_
          refine z_getr fl_RX8_64 (by decide) rfl rfl dX8_order_44 ?_
          refine z_iload_n 3 dX8_order_47 rfl rfl ?_
          refine z_iald _ (by decide) rfl rfl (by omega) (by decide) dX8_order_48 ?_
          rw [zu_at, zu_ne (by decide), F 56 (by decide), O k (by omega)]
          refine z_icmp_eq 56 (by omega) (by omega) dX8_order_49 (by decide) (fun h_49 => ?_) (fun h_49 => ?_)
          · refine z_iconst dX8_order_56 ?_
            rw [show (0 : Int) = zb (nwN (a % 4294967296).toNat ord (k + 1)) by rw [nwN, h_34, decide_eq_true (by omega)]; rfl]
            refine z_istore_n (L' := [(0, _), (1, _), (2, _), (3, _)]) dX8_order_57 rfl (by decide) rfl rfl ?_
            refine z_iinc 3 (L' := [(0, _), (1, _), (2, _), (3, _)]) dX8_order_58 (by decide) rfl rfl rfl ?_
            refine z_goto 9 dX8_order_61 (by decide) ?_
            refine ih (k + 1) _ (F.up (by decide)) (fun i hi => by rw [zu_ne (by decide)]; exact e37 i hi) (fun i hi => ?_) (by omega) (by omega)
            rw [zu_row]
            split
            · rename_i e; rw [e]
            · exact R i (by omega)
          · refine z_iconst dX8_order_52 ?_
            refine z_goto 57 dX8_order_53 (by decide) ?_
            rw [show (1 : Int) = zb (nwN (a % 4294967296).toNat ord (k + 1)) by rw [nwN, decide_eq_false (by omega)]; simp [zb]]
            refine z_istore_n (L' := [(0, _), (1, _), (2, _), (3, _)]) dX8_order_57 rfl (by decide) rfl rfl ?_
            refine z_iinc 3 (L' := [(0, _), (1, _), (2, _), (3, _)]) dX8_order_58 (by decide) rfl rfl rfl ?_
            refine z_goto 9 dX8_order_61 (by decide) ?_
            refine ih (k + 1) _ (F.up (by decide)) (fun i hi => by rw [zu_ne (by decide)]; exact e37 i hi) (fun i hi => ?_) (by omega) (by omega)
            rw [zu_row]
            split
            · rename_i e; rw [e]
            · exact R i (by omega)
  refine zC_of (L := [(0, _), (1, _)]) mk_X8_order (Nat.le_of_ble_eq_true rfl) hg rfl (fun x => ?_)
  refine z_aload_n 0 dX8_order_0 rfl rfl ?_
  refine z_iconst dX8_order_1 ?_
  refine z_puti fp_RX8_95 (by decide) rfl rfl dX8_order_2 ?_
  refine z_iconst dX8_order_5 ?_
  refine z_istore_n (L' := [(0, _), (1, _), (2, _)]) dX8_order_6 rfl (by decide) rfl rfl ?_
  refine z_iconst dX8_order_7 ?_
  refine z_istore_n (L' := [(0, _), (1, _), (2, _), (3, _)]) dX8_order_8 rfl (by decide) rfl rfl ?_
  exact key1 x (hN h + 1) 0 _ (zF.rf.up (by decide)) (fun i hi => by rw [zu_row, if_neg hi]) (fun i hi => absurd hi (by omega)) (by omega) (by omega)
