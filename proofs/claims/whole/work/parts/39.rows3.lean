/-! more rows: Math.max and min, arraycopy of ints, compares of longs, long arrays -/
section ZR3
variable {l : Launch} {x : zX} {g : zG} {M : zM} {n : Nat} {Q : Option Value → zD → Prop} {pc : Nat} {L : List (Nat × Value)} {st : List Value} {d : zD}
theorem z_mmax {idx : Nat} {a b : Int} (ha : zin a) (hb : zin b) (hlk : Cond.methodLink M.1 idx Lib.Math.max.name ∈ zTB) (h1 : Cond.static Lib.Math.max.name ∈ zTB) (h2 : Cond.initialized "java/lang/Math" ∈ zTB) (h3 : Cond.code Lib.Math.max.name Lib.Math.max.code 2 (some .int) ∈ zTB) (hn : 0 < n) (hw : (st.map fun v => v.category).sum ≤ 8) (hd : decode M.2.2.1 pc = .ok (.invokestatic idx, 3)) (k : zV l x g M n Q (pc + 3) L (zi (max a b) :: st) d) : zV l x g M n Q pc L (zi b :: zi a :: st) d := by
  obtain ⟨p, e, s, m, args, below, meth, c, A⟩ := x
  intro ok H locs ls hP hD hS hl
  refine va_mmax ok.1 ok.2.1 (by rw [ok.2.2.1, hl.1]) ok.2.2.2.1 (ok.2.2.2.2.1 _ hlk) (ok.2.2.2.2.1 _ h1) (ok.2.2.2.2.1 _ h2) (ok.2.2.2.2.1 _ h3) (show 1 ≤ n by omega) (show _ ≤ 40 * n by omega) (Nat.le_refl _) (Nat.le_refl _) hd ?_
  have e : (if Int32.ofInt a < Int32.ofInt b then Int32.ofInt b else Int32.ofInt a) = Int32.ofInt (max a b) := by
    by_cases h : a < b
    · rw [if_pos ((zlt ha hb).mpr h), Int.max_eq_right (by omega)]
    · rw [if_neg (fun z => h ((zlt ha hb).mp z)), Int.max_eq_left (by omega)]
  rw [e]
  exact k ok H locs ls hP hD hS hl
theorem z_mmin {idx : Nat} {a b : Int} (ha : zin a) (hb : zin b) (hlk : Cond.methodLink M.1 idx Lib.Math.min.name ∈ zTB) (h1 : Cond.static Lib.Math.min.name ∈ zTB) (h2 : Cond.initialized "java/lang/Math" ∈ zTB) (h3 : Cond.code Lib.Math.min.name Lib.Math.min.code 2 (some .int) ∈ zTB) (hn : 0 < n) (hw : (st.map fun v => v.category).sum ≤ 8) (hd : decode M.2.2.1 pc = .ok (.invokestatic idx, 3)) (k : zV l x g M n Q (pc + 3) L (zi (min a b) :: st) d) : zV l x g M n Q pc L (zi b :: zi a :: st) d := by
  obtain ⟨p, e, s, m, args, below, meth, c, A⟩ := x
  intro ok H locs ls hP hD hS hl
  refine va_mmin ok.1 ok.2.1 (by rw [ok.2.2.1, hl.1]) ok.2.2.2.1 (ok.2.2.2.2.1 _ hlk) (ok.2.2.2.2.1 _ h1) (ok.2.2.2.2.1 _ h2) (ok.2.2.2.2.1 _ h3) (show 1 ≤ n by omega) (show _ ≤ 40 * n by omega) (Nat.le_refl _) (Nat.le_refl _) hd ?_
  have e : (if Int32.ofInt b < Int32.ofInt a then Int32.ofInt b else Int32.ofInt a) = Int32.ofInt (min a b) := by
    by_cases h : b < a
    · rw [if_pos ((zlt hb ha).mpr h), Int.min_eq_right (by omega)]
    · rw [if_neg (fun z => h ((zlt hb ha).mp z)), Int.min_eq_left (by omega)]
  rw [e]
  exact k ok H locs ls hP hD hS hl
theorem z_copyi {idx q0 q1 n0 n1 : Nat} {kk : Nat} (hlk : Cond.methodLink M.1 idx arraycopyName ∈ zTB) (h1 : Cond.static arraycopyName ∈ zTB) (h2 : Cond.initialized "java/lang/System" ∈ zTB) (h3 : Cond.native arraycopyName ∈ zTB) (hq0 : q0 < zN) (hq1 : q1 < zN) (hs0 : zsh q0 = .inr (0, n0)) (hs1 : zsh q1 = .inr (0, n1)) (hk0 : kk ≤ n0) (hk1 : kk ≤ n1) (hk : kk < 2147483648) (hn : 0 < n) (hw : (st.map fun v => v.category).sum ≤ 8) (hd : decode M.2.2.1 pc = .ok (.invokestatic idx, 3)) (k : ∀ d' : zD, zF [q1] d d' → (∀ i, i < kk → d' q1 i = d q0 i) → zV l x g M n Q (pc + 3) L st d') : zV l x g M n Q pc L (zi (kk : Int) :: zi 0 :: zr g q1 :: zi 0 :: zr g q0 :: st) d := by
  obtain ⟨p, e, s, m, args, below, meth, c, A⟩ := x
  intro ok H locs ls hP hD hS hl
  have hat0 : (zw g d)[q0]? = some (g.2.2.1 q0, .inl (g.2.2.2.1 0, n0, .inl (fun i => Int32.ofInt (d q0 i)))) := by rw [zw_at g d hq0, zcell_a g d hs0 (by decide)]
  have hat1 : (zw g d)[q1]? = some (g.2.2.1 q1, .inl (g.2.2.2.1 0, n1, .inl (fun i => Int32.ofInt (d q1 i)))) := by rw [zw_at g d hq1, zcell_a g d hs1 (by decide)]
  have hz : (Int32.ofInt (0 : Int)).toNatClampNeg = 0 := rfl
  have hkc : (Int32.ofInt (kk : Int)).toNatClampNeg = kk := zclamp (by omega)
  have hn0 : ¬ Int32.ofInt (kk : Int) < 0 := by rw [zz0, zlt ⟨by omega, by omega⟩ zin0]; omega
  refine va_copyi ok.1 ok.2.1 (by rw [ok.2.2.1, hl.1]) ok.2.2.2.1 (ok.2.2.2.2.1 _ hlk) (ok.2.2.2.2.1 _ h3) (ok.2.2.2.2.1 _ h1) (ok.2.2.2.2.1 _ h2) ok.2.2.2.2.2.2.1 hP hD hS q0 q1 0 0 hat0 hat1 rfl rfl rfl (by decide) (by decide) hn0 (by rw [hz, hkc]; omega) (by rw [hz, hkc]; omega) (fun i _ => rfl) (show 1 ≤ n by omega) (show _ ≤ 40 * n by show _ + (7 + 11) ≤ _; omega) hd ?_
  intro H1 locs1 hP1 hD1 hS1
  let d' : zD := fun p i => if p = q1 ∧ i < kk then d q0 i else d p i
  have hF : zF [q1] d d' := fun p hp => by
    funext i
    show (if p = q1 ∧ i < kk then d q0 i else d p i) = d p i
    rw [if_neg (fun z => hp (by simp [z.1]))]
  have hset : (zw g d).set q1 (g.2.2.1 q1, .inl (g.2.2.2.1 0, n1, .inl (va_cpy (fun i => Int32.ofInt (d q0 i)) (fun i => Int32.ofInt (d q1 i)) (Int32.ofInt (0 : Int)).toNatClampNeg (Int32.ofInt (0 : Int)).toNatClampNeg (Int32.ofInt (kk : Int)).toNatClampNeg))) = zw g d' := by
    refine zw_set g hq1 (fun i hi => hF i (by simp [hi])) ?_
    rw [zcell_a g _ hs1 (by decide), hz, hkc]
    congr 4
    funext i
    show (if 0 ≤ i ∧ i < 0 + kk then Int32.ofInt (d q0 (0 + (i - 0))) else Int32.ofInt (d q1 i)) = Int32.ofInt (if q1 = q1 ∧ i < kk then d q0 i else d q1 i)
    by_cases h : i < kk
    · rw [if_pos ⟨Nat.zero_le _, by omega⟩, if_pos ⟨rfl, h⟩]; congr 2; omega
    · rw [if_neg (by omega), if_neg (by omega)]
  rw [hset] at hP1 hD1
  exact k d' hF (fun i hi => if_pos ⟨rfl, hi⟩) ok H1 locs1 ls hP1 hD1 hS1 hl
theorem z_lcmp {a b : Int} (ha : zinL a) (hb : zinL b) (hd : decode M.2.2.1 pc = .ok (.lcmp, 1)) (k : zV l x g M n Q (pc + 1) L (zi (if a < b then -1 else if a = b then 0 else 1) :: st) d) : zV l x g M n Q pc L (zl b :: zl a :: st) d := by
  obtain ⟨p, e, s, m, args, below, meth, c, A⟩ := x
  intro ok H locs ls hP hD hS hl
  refine W.lcmp ok.1 ok.2.1 hd ?_
  have e : lg_cmp (Int64.ofInt a) (Int64.ofInt b) = Int32.ofInt (if a < b then -1 else if a = b then 0 else 1) := by
    unfold lg_cmp
    by_cases h : a < b
    · rw [if_pos h, if_neg (by rw [gt_iff_lt, zltL hb ha]; omega), if_neg (by rw [zeqL ha hb]; omega)]; decide
    · rw [if_neg h]
      by_cases h2 : a = b
      · rw [if_pos h2, if_neg (by rw [gt_iff_lt, zltL hb ha]; omega), if_pos (by rw [zeqL ha hb]; omega)]; decide
      · rw [if_neg h2, if_pos (by rw [gt_iff_lt, zltL hb ha]; omega)]; decide
  rw [e]
  exact k ok H locs ls hP hD hS hl
theorem z_lald {q sz : Nat} {a : Int} (j : Nat) (hq : q < zN) (hsh : zsh q = .inr (2, sz)) (ha : a = (j : Int)) (hj : j < sz) (hsz : sz < 2147483648) (hd : decode M.2.2.1 pc = .ok (.laload, 1)) (kk : zV l x g M n Q (pc + 1) L (zl (d q j) :: st) d) : zV l x g M n Q pc L (zi a :: zr g q :: st) d := by
  obtain ⟨p, e, s, m, args, below, meth, c, A⟩ := x
  intro ok H locs ls hP hD hS hl
  subst ha
  have kk' := kk ok H locs ls hP hD hS hl
  have hat : (zw g d)[q]? = some (g.2.2.1 q, .inl (g.2.2.2.1 2, sz, .inr (.inl (fun i => Int64.ofInt (d q i))))) := by rw [zw_at g d hq, zcell_l g d hsh]
  refine va_lald ok.1 ok.2.1 ok.2.2.2.2.2.2.1 hP q 2 hat rfl (zvin hj hsz) hd ?_
  rw [zclamp (by omega)]
  exact kk'
theorem z_last {q sz : Nat} {a v : Int} (j : Nat) (hq : q < zN) (hsh : zsh q = .inr (2, sz)) (ha : a = (j : Int)) (hj : j < sz) (hsz : sz < 2147483648) (hd : decode M.2.2.1 pc = .ok (.lastore, 1)) (kk : zV l x g M n Q (pc + 1) L st (zu d q j v)) : zV l x g M n Q pc L (zl v :: zi a :: zr g q :: st) d := by
  obtain ⟨p, e, s, m, args, below, meth, c, A⟩ := x
  intro ok H locs ls hP hD hS hl
  subst ha
  have hat : (zw g d)[q]? = some (g.2.2.1 q, .inl (g.2.2.2.1 2, sz, .inr (.inl (fun i => Int64.ofInt (d q i))))) := by rw [zw_at g d hq, zcell_l g d hsh]
  have hset : (zw g d).set q (g.2.2.1 q, .inl (g.2.2.2.1 2, sz, .inr (.inl (vp_updL (fun i => Int64.ofInt (d q i)) (Int32.ofInt (j : Int)).toNatClampNeg (Int64.ofInt v))))) = zw g (zu d q j v) := by
    refine zw_set g hq (fun i hi => zu_ne hi) ?_
    rw [zcell_l g _ hsh, zclamp (by omega)]
    congr 5
    funext i
    simp only [vp_updL, zu_row]
    split <;> rfl
  refine va_last ok.1 ok.2.1 ok.2.2.2.2.2.2.1 hP hD hS q 2 hat rfl (zvin hj hsz) hd (fun H1 locs1 hP1 hD1 hS1 => ?_)
  rw [hset] at hP1 hD1
  exact kk ok H1 locs1 ls hP1 hD1 hS1 hl
end ZR3
theorem mmax_25 : Cond.methodLink RX3 25 Lib.Math.max.name ∈ zTB := zTB_in 542 (by decide +kernel) rfl
theorem mmin_19 : Cond.methodLink RX3 19 Lib.Math.min.name ∈ zTB := zTB_in 539 (by decide +kernel) rfl
theorem mmax_s : Cond.static Lib.Math.max.name ∈ zTB := zTB_in 543 (by decide +kernel) rfl
theorem mmin_s : Cond.static Lib.Math.min.name ∈ zTB := zTB_in 540 (by decide +kernel) rfl
theorem math_i : Cond.initialized "java/lang/Math" ∈ zTB := zTB_in 142 (by decide +kernel) rfl
theorem mmax_c : Cond.code Lib.Math.max.name Lib.Math.max.code 2 (some .int) ∈ zTB := zTB_in 544 (by decide +kernel) rfl
theorem mmin_c : Cond.code Lib.Math.min.name Lib.Math.min.code 2 (some .int) ∈ zTB := zTB_in 541 (by decide +kernel) rfl
theorem cpy_61 : Cond.methodLink RX2 61 arraycopyName ∈ zTB := zTB_in 700 (by decide +kernel) rfl
theorem cpy_s : Cond.static arraycopyName ∈ zTB := zTB_in 701 (by decide +kernel) rfl
theorem cpy_n : Cond.native arraycopyName ∈ zTB := zTB_in 702 (by decide +kernel) rfl
theorem sys_i : Cond.initialized "java/lang/System" ∈ zTB := zTB_in 147 (by decide +kernel) rfl
section ZR4
variable {l : Launch} {x : zX} {g : zG} {M : zM} {n : Nat} {Q : Option Value → zD → Prop} {pc : Nat} {L : List (Nat × Value)} {st : List Value} {d : zD}
/-- a long is put into a local, and the others are kept -/
theorem z_lstoreK {kk : Fin 4} {i : Nat} {a : Int} {L' : List (Nat × Value)} (ks : List Nat) (hi : (kk : Nat) = i) (hn : i + 1 < M.2.2.2.1) (hL : lv_pick ((i, zl a) :: L.filter (fun q => !(q.1 == i) && (!(q.1 == i + 1) && !(q.1 + 1 == i && q.2.category == 2)))) ks = L') (hd : decode M.2.2.1 pc = .ok (.lstore_n kk, 1)) (k : zV l x g M n Q (pc + 1) L' st d) : zV l x g M n Q pc L (zl a :: st) d := by
  obtain ⟨p, e, s, m, args, below, meth, c, A⟩ := x
  intro ok H locs ls hP hD hS hl
  exact lv_lstore_n ok.1 ok.2.1 hd hi hl hn rfl (fun ls' hl' => k ok H locs ls' hP hD hS (lv_sub hl' ks hL))
end ZR4
