/-! more rows: constants of the pool, longs, switches -/
section ZR2
variable {l : Launch} {x : zX} {g : zG} {M : zM} {n : Nat} {Q : Option Value → zD → Prop} {pc : Nat} {L : List (Nat × Value)} {st : List Value} {d : zD}
theorem z_ldcw {v : Int} {idx : Nat} (hc : Cond.constant M.1 idx (Int32.ofInt v) ∈ zTB) (hd : decode M.2.2.1 pc = .ok (.ldc_w idx, 3)) (k : zV l x g M n Q (pc + 3) L (zi v :: st) d) : zV l x g M n Q pc L st d := by
  obtain ⟨p, e, s, m, args, below, meth, c, A⟩ := x
  intro ok H locs ls hP hD hS hl
  exact lv_ldcw ok.1 ok.2.1 ok.2.2.2.1 (ok.2.2.2.2.1 _ hc) hd (k ok H locs ls hP hD hS hl)
theorem z_ldc2 {v : Int} {idx : Nat} (hc : Cond.constantLong M.1 idx (Int64.ofInt v) ∈ zTB) (hd : decode M.2.2.1 pc = .ok (.ldc2_w idx, 3)) (k : zV l x g M n Q (pc + 3) L (zl v :: st) d) : zV l x g M n Q pc L st d := by
  obtain ⟨p, e, s, m, args, below, meth, c, A⟩ := x
  intro ok H locs ls hP hD hS hl
  exact lv_ldc2 ok.1 ok.2.1 ok.2.2.2.1 (ok.2.2.2.2.1 _ hc) hd (k ok H locs ls hP hD hS hl)
theorem z_lconst {kk : Fin 2} (v : Int) (hv : Int64.ofNat (kk : Nat) = Int64.ofInt v) (hd : decode M.2.2.1 pc = .ok (.lconst kk, 1)) (k : zV l x g M n Q (pc + 1) L (zl v :: st) d) : zV l x g M n Q pc L st d := by
  obtain ⟨p, e, s, m, args, below, meth, c, A⟩ := x
  intro ok H locs ls hP hD hS hl
  exact lv_lconst ok.1 ok.2.1 hd hv (k ok H locs ls hP hD hS hl)
theorem z_ladd {a b : Int} (hd : decode M.2.2.1 pc = .ok (.ladd, 1)) (k : zV l x g M n Q (pc + 1) L (zl (a + b) :: st) d) : zV l x g M n Q pc L (zl b :: zl a :: st) d := by
  obtain ⟨p, e, s, m, args, below, meth, c, A⟩ := x
  intro ok H locs ls hP hD hS hl
  exact lv_ladd ok.1 ok.2.1 hd (by rw [← Int64.ofInt_add]; exact k ok H locs ls hP hD hS hl)
theorem z_lmul {a b : Int} (hd : decode M.2.2.1 pc = .ok (.lmul, 1)) (k : zV l x g M n Q (pc + 1) L (zl (a * b) :: st) d) : zV l x g M n Q pc L (zl b :: zl a :: st) d := by
  obtain ⟨p, e, s, m, args, below, meth, c, A⟩ := x
  intro ok H locs ls hP hD hS hl
  exact lv_lmul ok.1 ok.2.1 hd (by rw [← Int64.ofInt_mul]; exact k ok H locs ls hP hD hS hl)
theorem zi2l {a : Int} (h : zin a) : (Int32.ofInt a).toInt64 = Int64.ofInt a := by
  rw [← Int64.toInt_inj, Int32.toInt_toInt64, zto h, Int64.toInt_ofInt_of_le (by omega) (by omega)]
theorem z_i2l {a : Int} (ha : zin a) (hd : decode M.2.2.1 pc = .ok (.i2l, 1)) (k : zV l x g M n Q (pc + 1) L (zl a :: st) d) : zV l x g M n Q pc L (zi a :: st) d := by
  obtain ⟨p, e, s, m, args, below, meth, c, A⟩ := x
  intro ok H locs ls hP hD hS hl
  exact lv_i2l ok.1 ok.2.1 hd (zi2l ha) (k ok H locs ls hP hD hS hl)
/-- in the range of a long -/
abbrev zinL (a : Int) : Prop := -9223372036854775808 ≤ a ∧ a < 9223372036854775808
theorem ztoL {a : Int} (h : zinL a) : (Int64.ofInt a).toInt = a := Int64.toInt_ofInt_of_le h.1 h.2
theorem zltL {a b : Int} (ha : zinL a) (hb : zinL b) : Int64.ofInt a < Int64.ofInt b ↔ a < b := by rw [Int64.lt_iff_toInt_lt, ztoL ha, ztoL hb]
theorem zeqL {a b : Int} (ha : zinL a) (hb : zinL b) : Int64.ofInt a = Int64.ofInt b ↔ a = b := by rw [← Int64.toInt_inj, ztoL ha, ztoL hb]
theorem z_tabOut {a : Int} {dflt lo hi : Int} {offs : Array Int} {len : Nat} (t : Nat) (ha : zin a) (h : a < lo ∨ hi < a) (ht : (pc : Int) + dflt = (t : Int)) (hd : decode M.2.2.1 pc = .ok (.tableswitch dflt lo hi offs, len)) (k : zV l x g M n Q t L st d) : zV l x g M n Q pc L (zi a :: st) d := by
  obtain ⟨p, e, s, m, args, below, meth, c, A⟩ := x
  intro ok H locs ls hP hD hS hl
  exact lv_tableOut ok.1 ok.2.1 hd (by rw [zto ha]; exact h) ht (k ok H locs ls hP hD hS hl)
theorem z_tabIn {a : Int} {dflt lo hi : Int} {offs : Array Int} {len : Nat} {off : Int} (t : Nat) (b : Int) (e : a = b) (hb : zin b) (h1 : ¬ b < lo) (h2 : ¬ hi < b) (ho : offs[(b - lo).toNat]? = some off) (ht : (pc : Int) + off = (t : Int)) (hd : decode M.2.2.1 pc = .ok (.tableswitch dflt lo hi offs, len)) (k : zV l x g M n Q t L st d) : zV l x g M n Q pc L (zi a :: st) d := by
  subst e
  obtain ⟨p, e, s, m, args, below, meth, c, A⟩ := x
  intro ok H locs ls hP hD hS hl
  exact lv_tableIn ok.1 ok.2.1 hd (by rw [zto hb]; exact h1) (by rw [zto hb]; exact h2) (by rw [zto hb]; exact ho) ht (k ok H locs ls hP hD hS hl)
end ZR2
