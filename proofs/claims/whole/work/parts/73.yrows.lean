/-! rows with any end: the law and the methods that throw; made by wip/whole/gen_y.py out of the rows before -/
def yV (l : Launch) (x : zX) (g : zG) (M : zM) (R : Room) (ce sl : Nat) (F : State → Prop) (pc : Nat) (L : List (Nat × Value)) (st : List Value) (d : zD) : Prop := match x with
  | (p, e, s, m, args, below, meth, c, A) => zOk (p, e, s, m, args, below, meth, c, A) g M → ∀ (H : Heap) (locs : List Loc) (ls : Array Slot),
    va_P (zgD g) vwCl (zw g d) H → va_D A (zw g d) → va_S A s.heap H locs → lv_has ls M.2.2.2.1 L →
    W p l e R s m args below meth c H locs ce sl F (F0 m pc ls st)
section
variable {l : Launch} {x : zX} {g : zG} {M : zM} {R : Room} {ce sl : Nat} {F : State → Prop} {pc : Nat} {L : List (Nat × Value)} {st : List Value} {d : zD}
theorem y_iconst {a : Int} (hd : decode M.2.2.1 pc = .ok (.iconst a, 1)) (k : yV l x g M R ce sl F (pc + 1) L (zi a :: st) d) : yV l x g M R ce sl F pc L (st) d := by
  obtain ⟨p, e, s, m, args, below, meth, c, A⟩ := x
  intro ok H locs ls hP hD hS hl
  exact lv_iconst ok.1 ok.2.1 hd rfl (k ok H locs ls hP hD hS hl)
theorem y_bipush {a : Int} (hd : decode M.2.2.1 pc = .ok (.bipush a, 2)) (ha : (Int8.ofInt a).toInt32 = Int32.ofInt a) (k : yV l x g M R ce sl F (pc + 2) L (zi a :: st) d) : yV l x g M R ce sl F pc L (st) d := by
  obtain ⟨p, e, s, m, args, below, meth, c, A⟩ := x
  intro ok H locs ls hP hD hS hl
  exact lv_bipush ok.1 ok.2.1 hd ha (k ok H locs ls hP hD hS hl)
theorem y_sipush {a : Int} (hd : decode M.2.2.1 pc = .ok (.sipush a, 3)) (ha : (Int16.ofInt a).toInt32 = Int32.ofInt a) (k : yV l x g M R ce sl F (pc + 3) L (zi a :: st) d) : yV l x g M R ce sl F pc L (st) d := by
  obtain ⟨p, e, s, m, args, below, meth, c, A⟩ := x
  intro ok H locs ls hP hD hS hl
  exact lv_sipush ok.1 ok.2.1 hd ha (k ok H locs ls hP hD hS hl)
theorem y_iload_n (j : Nat) {i : Nat} {kk : Fin 4} {a : Int} (hd : decode M.2.2.1 pc = .ok (.iload_n kk, 1)) (hi : (kk : Nat) = i) (hj : L[j]? = some (i, zi a)) (k : yV l x g M R ce sl F (pc + 1) L (zi a :: st) d) : yV l x g M R ce sl F pc L (st) d := by
  obtain ⟨p, e, s, m, args, below, meth, c, A⟩ := x
  intro ok H locs ls hP hD hS hl
  exact lv_iload_n ok.1 ok.2.1 hd hi (lv_at hl j hj) (k ok H locs ls hP hD hS hl)
theorem y_iload (j : Nat) {i : Nat} {a : Int} (hd : decode M.2.2.1 pc = .ok (.iload i, 2)) (hj : L[j]? = some (i, zi a)) (k : yV l x g M R ce sl F (pc + 2) L (zi a :: st) d) : yV l x g M R ce sl F pc L (st) d := by
  obtain ⟨p, e, s, m, args, below, meth, c, A⟩ := x
  intro ok H locs ls hP hD hS hl
  exact lv_iload ok.1 ok.2.1 hd (lv_at hl j hj) (k ok H locs ls hP hD hS hl)
theorem y_aload_n (j : Nat) {i : Nat} {kk : Fin 4} {q : Nat} (hd : decode M.2.2.1 pc = .ok (.aload_n kk, 1)) (hi : (kk : Nat) = i) (hj : L[j]? = some (i, zr g q)) (k : yV l x g M R ce sl F (pc + 1) L (zr g q :: st) d) : yV l x g M R ce sl F pc L (st) d := by
  obtain ⟨p, e, s, m, args, below, meth, c, A⟩ := x
  intro ok H locs ls hP hD hS hl
  exact lv_aload_n ok.1 ok.2.1 hd hi (lv_at hl j hj) (k ok H locs ls hP hD hS hl)
theorem y_aload (j : Nat) {i : Nat} {q : Nat} (hd : decode M.2.2.1 pc = .ok (.aload i, 2)) (hj : L[j]? = some (i, zr g q)) (k : yV l x g M R ce sl F (pc + 2) L (zr g q :: st) d) : yV l x g M R ce sl F pc L (st) d := by
  obtain ⟨p, e, s, m, args, below, meth, c, A⟩ := x
  intro ok H locs ls hP hD hS hl
  exact lv_aload ok.1 ok.2.1 hd (lv_at hl j hj) (k ok H locs ls hP hD hS hl)
theorem y_lload_n (j : Nat) {i : Nat} {kk : Fin 4} {a : Int} (hd : decode M.2.2.1 pc = .ok (.lload_n kk, 1)) (hi : (kk : Nat) = i) (hj : L[j]? = some (i, zl a)) (k : yV l x g M R ce sl F (pc + 1) L (zl a :: st) d) : yV l x g M R ce sl F pc L (st) d := by
  obtain ⟨p, e, s, m, args, below, meth, c, A⟩ := x
  intro ok H locs ls hP hD hS hl
  exact lv_lload_n ok.1 ok.2.1 hd hi (lv_at hl j hj) (k ok H locs ls hP hD hS hl)
theorem y_istore_n {i : Nat} {kk : Fin 4} {a : Int} {L' : List (Nat × Value)} (hd : decode M.2.2.1 pc = .ok (.istore_n kk, 1)) (hi : (kk : Nat) = i) (hn : i < M.2.2.2.1) (hu : zup L = true) (hL : zset L i (zi a) = L') (k : yV l x g M R ce sl F (pc + 1) L' st d) : yV l x g M R ce sl F pc L (zi a :: st) d := by
  obtain ⟨p, e, s, m, args, below, meth, c, A⟩ := x
  intro ok H locs ls hP hD hS hl
  subst hL
  exact lv_istore_n ok.1 ok.2.1 hd hi hl hn rfl (fun ls' hl' => k ok H locs ls' hP hD hS (zset_has hu hl'))
theorem y_istore {i : Nat} {a : Int} {L' : List (Nat × Value)} (hd : decode M.2.2.1 pc = .ok (.istore i, 2)) (hn : i < M.2.2.2.1) (hu : zup L = true) (hL : zset L i (zi a) = L') (k : yV l x g M R ce sl F (pc + 2) L' st d) : yV l x g M R ce sl F pc L (zi a :: st) d := by
  obtain ⟨p, e, s, m, args, below, meth, c, A⟩ := x
  intro ok H locs ls hP hD hS hl
  subst hL
  exact lv_istore ok.1 ok.2.1 hd hl hn rfl (fun ls' hl' => k ok H locs ls' hP hD hS (zset_has hu hl'))
theorem y_astore_n {i : Nat} {kk : Fin 4} {q : Nat} {L' : List (Nat × Value)} (hd : decode M.2.2.1 pc = .ok (.astore_n kk, 1)) (hi : (kk : Nat) = i) (hn : i < M.2.2.2.1) (hu : zup L = true) (hL : zset L i (zr g q) = L') (k : yV l x g M R ce sl F (pc + 1) L' st d) : yV l x g M R ce sl F pc L (zr g q :: st) d := by
  obtain ⟨p, e, s, m, args, below, meth, c, A⟩ := x
  intro ok H locs ls hP hD hS hl
  subst hL
  exact lv_astore_n ok.1 ok.2.1 hd hi hl hn rfl (fun ls' hl' => k ok H locs ls' hP hD hS (zset_has hu hl'))
theorem y_astore {i : Nat} {q : Nat} {L' : List (Nat × Value)} (hd : decode M.2.2.1 pc = .ok (.astore i, 2)) (hn : i < M.2.2.2.1) (hu : zup L = true) (hL : zset L i (zr g q) = L') (k : yV l x g M R ce sl F (pc + 2) L' st d) : yV l x g M R ce sl F pc L (zr g q :: st) d := by
  obtain ⟨p, e, s, m, args, below, meth, c, A⟩ := x
  intro ok H locs ls hP hD hS hl
  subst hL
  exact lv_astore ok.1 ok.2.1 hd hl hn rfl (fun ls' hl' => k ok H locs ls' hP hD hS (zset_has hu hl'))
theorem y_iinc (j : Nat) {i : Nat} {a b : Int} {L' : List (Nat × Value)} (hd : decode M.2.2.1 pc = .ok (.iinc i b, 3)) (hn : i < M.2.2.2.1) (hu : zup L = true) (hj : L[j]? = some (i, zi a)) (hL : zset L i (zi (a + b)) = L') (k : yV l x g M R ce sl F (pc + 3) L' st d) : yV l x g M R ce sl F pc L st d := by
  obtain ⟨p, e, s, m, args, below, meth, c, A⟩ := x
  intro ok H locs ls hP hD hS hl
  subst hL
  exact lv_iinc ok.1 ok.2.1 hd hl hj (v := Int32.ofInt (a + b)) (Int32.ofInt_add a b).symm hn rfl (fun ls' hl' => k ok H locs ls' hP hD hS (zset_has hu hl'))
theorem y_lstore_n {kk : Fin 4} {i : Nat} {a : Int} {L' : List (Nat × Value)} (hd : decode M.2.2.1 pc = .ok (.lstore_n kk, 1)) (hi : (kk : Nat) = i) (hn : i + 1 < M.2.2.2.1) (hL : L.filter (fun q => decide (q.1 + 1 < i) || (decide (q.1 < i) && q.2.category == 1)) ++ [(i, zl a)] = L') (k : yV l x g M R ce sl F (pc + 1) L' st d) : yV l x g M R ce sl F pc L (zl a :: st) d := by
  obtain ⟨p, e, s, m, args, below, meth, c, A⟩ := x
  intro ok H locs ls hP hD hS hl
  subst hL
  refine lv_lstore_n ok.1 ok.2.1 hd hi hl hn rfl (fun ls' hl' => k ok H locs ls' hP hD hS ⟨hl'.1, hl'.2.1, fun q hq => ?_⟩)
  rcases List.mem_append.mp hq with hq | hq
  · obtain ⟨h1, h2⟩ := List.mem_filter.mp hq
    refine hl'.2.2 q (List.mem_cons_of_mem _ (List.mem_filter.mpr ⟨h1, ?_⟩))
    simp only [Bool.or_eq_true, Bool.and_eq_true, decide_eq_true_eq, beq_iff_eq] at h2
    simp only [Bool.and_eq_true, Bool.not_eq_true', beq_eq_false_iff_ne, ne_eq, Bool.and_eq_false_iff]
    refine ⟨by omega, by omega, ?_⟩
    rcases h2 with h2 | h2
    · exact Or.inl (by omega)
    · exact Or.inr (by omega)
  · rw [List.mem_singleton] at hq
    subst hq
    exact hl'.2.2 _ List.mem_cons_self
theorem y_iadd {a b : Int} (hd : decode M.2.2.1 pc = .ok (.iadd, 1)) (k : yV l x g M R ce sl F (pc + 1) L (zi (a + b) :: st) d) : yV l x g M R ce sl F pc L (zi b :: zi a :: st) d := by
  obtain ⟨p, e, s, m, args, below, meth, c, A⟩ := x
  intro ok H locs ls hP hD hS hl
  exact lv_iadd ok.1 ok.2.1 hd (by rw [← Int32.ofInt_add]; exact k ok H locs ls hP hD hS hl)
theorem y_isub {a b : Int} (hd : decode M.2.2.1 pc = .ok (.isub, 1)) (k : yV l x g M R ce sl F (pc + 1) L (zi (a - b) :: st) d) : yV l x g M R ce sl F pc L (zi b :: zi a :: st) d := by
  obtain ⟨p, e, s, m, args, below, meth, c, A⟩ := x
  intro ok H locs ls hP hD hS hl
  exact lv_isub ok.1 ok.2.1 hd (by rw [← Int32.ofInt_sub]; exact k ok H locs ls hP hD hS hl)
theorem y_imul {a b : Int} (hd : decode M.2.2.1 pc = .ok (.imul, 1)) (k : yV l x g M R ce sl F (pc + 1) L (zi (a * b) :: st) d) : yV l x g M R ce sl F pc L (zi b :: zi a :: st) d := by
  obtain ⟨p, e, s, m, args, below, meth, c, A⟩ := x
  intro ok H locs ls hP hD hS hl
  exact lv_imul ok.1 ok.2.1 hd (by rw [← Int32.ofInt_mul]; exact k ok H locs ls hP hD hS hl)
theorem y_ineg {a : Int} (hd : decode M.2.2.1 pc = .ok (.ineg, 1)) (k : yV l x g M R ce sl F (pc + 1) L (zi (-a) :: st) d) : yV l x g M R ce sl F pc L (zi a :: st) d := by
  obtain ⟨p, e, s, m, args, below, meth, c, A⟩ := x
  intro ok H locs ls hP hD hS hl
  exact lv_ineg ok.1 ok.2.1 hd (by rw [← Int32.ofInt_neg]; exact k ok H locs ls hP hD hS hl)
theorem y_iand {a b : Int} (v : Int) (hv : Int32.ofInt a &&& Int32.ofInt b = Int32.ofInt v) (hd : decode M.2.2.1 pc = .ok (.iand, 1)) (k : yV l x g M R ce sl F (pc + 1) L (zi v :: st) d) : yV l x g M R ce sl F pc L (zi b :: zi a :: st) d := by
  obtain ⟨p, e, s, m, args, below, meth, c, A⟩ := x
  intro ok H locs ls hP hD hS hl
  exact lv_iand ok.1 ok.2.1 hd (by rw [hv]; exact k ok H locs ls hP hD hS hl)
theorem y_ior {a b : Int} (v : Int) (hv : Int32.ofInt a ||| Int32.ofInt b = Int32.ofInt v) (hd : decode M.2.2.1 pc = .ok (.ior, 1)) (k : yV l x g M R ce sl F (pc + 1) L (zi v :: st) d) : yV l x g M R ce sl F pc L (zi b :: zi a :: st) d := by
  obtain ⟨p, e, s, m, args, below, meth, c, A⟩ := x
  intro ok H locs ls hP hD hS hl
  exact lv_ior ok.1 ok.2.1 hd (by rw [hv]; exact k ok H locs ls hP hD hS hl)
theorem y_ixor {a b : Int} (v : Int) (hv : Int32.ofInt a ^^^ Int32.ofInt b = Int32.ofInt v) (hd : decode M.2.2.1 pc = .ok (.ixor, 1)) (k : yV l x g M R ce sl F (pc + 1) L (zi v :: st) d) : yV l x g M R ce sl F pc L (zi b :: zi a :: st) d := by
  obtain ⟨p, e, s, m, args, below, meth, c, A⟩ := x
  intro ok H locs ls hP hD hS hl
  exact lv_ixor ok.1 ok.2.1 hd (by rw [hv]; exact k ok H locs ls hP hD hS hl)
theorem y_ishl {a b : Int} (v : Int) (hv : Int32.ofInt a <<< (Int32.ofInt b &&& 31) = Int32.ofInt v) (hd : decode M.2.2.1 pc = .ok (.ishl, 1)) (k : yV l x g M R ce sl F (pc + 1) L (zi v :: st) d) : yV l x g M R ce sl F pc L (zi b :: zi a :: st) d := by
  obtain ⟨p, e, s, m, args, below, meth, c, A⟩ := x
  intro ok H locs ls hP hD hS hl
  exact lv_ishl ok.1 ok.2.1 hd (by rw [hv]; exact k ok H locs ls hP hD hS hl)
theorem y_ishr {a b : Int} (v : Int) (hv : Int32.ofInt a >>> (Int32.ofInt b &&& 31) = Int32.ofInt v) (hd : decode M.2.2.1 pc = .ok (.ishr, 1)) (k : yV l x g M R ce sl F (pc + 1) L (zi v :: st) d) : yV l x g M R ce sl F pc L (zi b :: zi a :: st) d := by
  obtain ⟨p, e, s, m, args, below, meth, c, A⟩ := x
  intro ok H locs ls hP hD hS hl
  exact lv_ishr ok.1 ok.2.1 hd (by rw [hv]; exact k ok H locs ls hP hD hS hl)
theorem y_iushr {a b : Int} (v : Int) (hv : ((Int32.ofInt a).toUInt32 >>> ((Int32.ofInt b).toUInt32 &&& Int32.toUInt32 31)).toInt32 = Int32.ofInt v) (hd : decode M.2.2.1 pc = .ok (.iushr, 1)) (k : yV l x g M R ce sl F (pc + 1) L (zi v :: st) d) : yV l x g M R ce sl F pc L (zi b :: zi a :: st) d := by
  obtain ⟨p, e, s, m, args, below, meth, c, A⟩ := x
  intro ok H locs ls hP hD hS hl
  exact lv_iushr ok.1 ok.2.1 hd hv (k ok H locs ls hP hD hS hl)
theorem y_idiv {a b : Int} (v : Int) (hb : ¬ Int32.ofInt b = 0) (hv : Int32.ofInt a / Int32.ofInt b = Int32.ofInt v) (hd : decode M.2.2.1 pc = .ok (.idiv, 1)) (k : yV l x g M R ce sl F (pc + 1) L (zi v :: st) d) : yV l x g M R ce sl F pc L (zi b :: zi a :: st) d := by
  obtain ⟨p, e, s, m, args, below, meth, c, A⟩ := x
  intro ok H locs ls hP hD hS hl
  exact lv_idiv ok.1 ok.2.1 hd hb (by rw [hv]; exact k ok H locs ls hP hD hS hl)
theorem y_irem {a b : Int} (v : Int) (hb : ¬ Int32.ofInt b = 0) (hv : Int32.ofInt a - Int32.ofInt a / Int32.ofInt b * Int32.ofInt b = Int32.ofInt v) (hd : decode M.2.2.1 pc = .ok (.irem, 1)) (k : yV l x g M R ce sl F (pc + 1) L (zi v :: st) d) : yV l x g M R ce sl F pc L (zi b :: zi a :: st) d := by
  obtain ⟨p, e, s, m, args, below, meth, c, A⟩ := x
  intro ok H locs ls hP hD hS hl
  exact lv_irem ok.1 ok.2.1 hd hb (by rw [hv]; exact k ok H locs ls hP hD hS hl)
theorem y_dup {v : Value} (hd : decode M.2.2.1 pc = .ok (.dup, 1)) (hv : v.category = 1) (k : yV l x g M R ce sl F (pc + 1) L (v :: v :: st) d) : yV l x g M R ce sl F pc L (v :: st) d := by
  obtain ⟨p, e, s, m, args, below, meth, c, A⟩ := x
  intro ok H locs ls hP hD hS hl
  exact lv_dup ok.1 ok.2.1 hd hv (k ok H locs ls hP hD hS hl)
theorem y_dup2 {v w : Value} (hd : decode M.2.2.1 pc = .ok (.dup2, 1)) (hv : v.category = 1) (hw : w.category = 1) (k : yV l x g M R ce sl F (pc + 1) L (v :: w :: v :: w :: st) d) : yV l x g M R ce sl F pc L (v :: w :: st) d := by
  obtain ⟨p, e, s, m, args, below, meth, c, A⟩ := x
  intro ok H locs ls hP hD hS hl
  exact lv_dup2_11 ok.1 ok.2.1 hd hv hw (k ok H locs ls hP hD hS hl)
theorem y_pop {v : Value} (hd : decode M.2.2.1 pc = .ok (.pop, 1)) (hv : v.category = 1) (k : yV l x g M R ce sl F (pc + 1) L (st) d) : yV l x g M R ce sl F pc L (v :: st) d := by
  obtain ⟨p, e, s, m, args, below, meth, c, A⟩ := x
  intro ok H locs ls hP hD hS hl
  exact lv_pop ok.1 ok.2.1 hd hv (k ok H locs ls hP hD hS hl)
theorem y_pop2 {v : Value} (hd : decode M.2.2.1 pc = .ok (.pop2, 1)) (hv : v.category = 2) (k : yV l x g M R ce sl F (pc + 1) L (st) d) : yV l x g M R ce sl F pc L (v :: st) d := by
  obtain ⟨p, e, s, m, args, below, meth, c, A⟩ := x
  intro ok H locs ls hP hD hS hl
  exact lv_pop2_2 ok.1 ok.2.1 hd hv (k ok H locs ls hP hD hS hl)
theorem y_goto {off : Int} (t : Nat) (hd : decode M.2.2.1 pc = .ok (.goto off, 3)) (ht : (pc : Int) + off = (t : Int)) (k : yV l x g M R ce sl F t L st d) : yV l x g M R ce sl F pc L st d := by
  obtain ⟨p, e, s, m, args, below, meth, c, A⟩ := x
  intro ok H locs ls hP hD hS hl
  exact lv_goto ok.1 ok.2.1 hd ht (k ok H locs ls hP hD hS hl)
theorem y_icmp_eq {a b : Int} {off : Int} (t : Nat) (ha : zin a) (hb : zin b) (hd : decode M.2.2.1 pc = .ok (.if_icmp .eq off, 3)) (ht : (pc : Int) + off = (t : Int)) (kt : a = b → yV l x g M R ce sl F t L st d) (kf : a ≠ b → yV l x g M R ce sl F (pc + 3) L st d) : yV l x g M R ce sl F pc L (zi b :: zi a :: st) d := by
  obtain ⟨p, e, s, m, args, below, meth, c, A⟩ := x
  intro ok H locs ls hP hD hS hl
  exact lv_icmp_eq ok.1 ok.2.1 hd ht (fun hc => kt ((zeq ha hb).mp hc) ok H locs ls hP hD hS hl) (fun hc => kf (fun z => hc ((zeq ha hb).mpr z)) ok H locs ls hP hD hS hl)
theorem y_if_eq {a : Int} {off : Int} (t : Nat) (ha : zin a) (hd : decode M.2.2.1 pc = .ok (.ifCond .eq off, 3)) (ht : (pc : Int) + off = (t : Int)) (kt : a = 0 → yV l x g M R ce sl F t L st d) (kf : a ≠ 0 → yV l x g M R ce sl F (pc + 3) L st d) : yV l x g M R ce sl F pc L (zi a :: st) d := by
  obtain ⟨p, e, s, m, args, below, meth, c, A⟩ := x
  intro ok H locs ls hP hD hS hl
  exact lv_if_eq ok.1 ok.2.1 hd ht (fun hc => kt ((zeq ha zin0).mp hc) ok H locs ls hP hD hS hl) (fun hc => kf (fun z => hc ((zeq ha zin0).mpr z)) ok H locs ls hP hD hS hl)
theorem y_icmp_ne {a b : Int} {off : Int} (t : Nat) (ha : zin a) (hb : zin b) (hd : decode M.2.2.1 pc = .ok (.if_icmp .ne off, 3)) (ht : (pc : Int) + off = (t : Int)) (kt : a ≠ b → yV l x g M R ce sl F t L st d) (kf : a = b → yV l x g M R ce sl F (pc + 3) L st d) : yV l x g M R ce sl F pc L (zi b :: zi a :: st) d := by
  obtain ⟨p, e, s, m, args, below, meth, c, A⟩ := x
  intro ok H locs ls hP hD hS hl
  exact lv_icmp_ne ok.1 ok.2.1 hd ht (fun hc => kt (fun z => hc ((zeq ha hb).mpr z)) ok H locs ls hP hD hS hl) (fun hc => kf ((zeq ha hb).mp hc) ok H locs ls hP hD hS hl)
theorem y_if_ne {a : Int} {off : Int} (t : Nat) (ha : zin a) (hd : decode M.2.2.1 pc = .ok (.ifCond .ne off, 3)) (ht : (pc : Int) + off = (t : Int)) (kt : a ≠ 0 → yV l x g M R ce sl F t L st d) (kf : a = 0 → yV l x g M R ce sl F (pc + 3) L st d) : yV l x g M R ce sl F pc L (zi a :: st) d := by
  obtain ⟨p, e, s, m, args, below, meth, c, A⟩ := x
  intro ok H locs ls hP hD hS hl
  exact lv_if_ne ok.1 ok.2.1 hd ht (fun hc => kt (fun z => hc ((zeq ha zin0).mpr z)) ok H locs ls hP hD hS hl) (fun hc => kf ((zeq ha zin0).mp hc) ok H locs ls hP hD hS hl)
theorem y_icmp_lt {a b : Int} {off : Int} (t : Nat) (ha : zin a) (hb : zin b) (hd : decode M.2.2.1 pc = .ok (.if_icmp .lt off, 3)) (ht : (pc : Int) + off = (t : Int)) (kt : a < b → yV l x g M R ce sl F t L st d) (kf : b ≤ a → yV l x g M R ce sl F (pc + 3) L st d) : yV l x g M R ce sl F pc L (zi b :: zi a :: st) d := by
  obtain ⟨p, e, s, m, args, below, meth, c, A⟩ := x
  intro ok H locs ls hP hD hS hl
  exact lv_icmp_lt ok.1 ok.2.1 hd ht (fun hc => kt ((zlt ha hb).mp hc) ok H locs ls hP hD hS hl) (fun hc => kf (Int.not_lt.mp (fun z => hc ((zlt ha hb).mpr z))) ok H locs ls hP hD hS hl)
theorem y_if_lt {a : Int} {off : Int} (t : Nat) (ha : zin a) (hd : decode M.2.2.1 pc = .ok (.ifCond .lt off, 3)) (ht : (pc : Int) + off = (t : Int)) (kt : a < 0 → yV l x g M R ce sl F t L st d) (kf : 0 ≤ a → yV l x g M R ce sl F (pc + 3) L st d) : yV l x g M R ce sl F pc L (zi a :: st) d := by
  obtain ⟨p, e, s, m, args, below, meth, c, A⟩ := x
  intro ok H locs ls hP hD hS hl
  exact lv_if_lt ok.1 ok.2.1 hd ht (fun hc => kt ((zlt ha zin0).mp hc) ok H locs ls hP hD hS hl) (fun hc => kf (Int.not_lt.mp (fun z => hc ((zlt ha zin0).mpr z))) ok H locs ls hP hD hS hl)
theorem y_icmp_ge {a b : Int} {off : Int} (t : Nat) (ha : zin a) (hb : zin b) (hd : decode M.2.2.1 pc = .ok (.if_icmp .ge off, 3)) (ht : (pc : Int) + off = (t : Int)) (kt : b ≤ a → yV l x g M R ce sl F t L st d) (kf : a < b → yV l x g M R ce sl F (pc + 3) L st d) : yV l x g M R ce sl F pc L (zi b :: zi a :: st) d := by
  obtain ⟨p, e, s, m, args, below, meth, c, A⟩ := x
  intro ok H locs ls hP hD hS hl
  exact lv_icmp_ge ok.1 ok.2.1 hd ht (fun hc => kt ((zle hb ha).mp hc) ok H locs ls hP hD hS hl) (fun hc => kf (Int.not_le.mp (fun z => hc ((zle hb ha).mpr z))) ok H locs ls hP hD hS hl)
theorem y_if_ge {a : Int} {off : Int} (t : Nat) (ha : zin a) (hd : decode M.2.2.1 pc = .ok (.ifCond .ge off, 3)) (ht : (pc : Int) + off = (t : Int)) (kt : 0 ≤ a → yV l x g M R ce sl F t L st d) (kf : a < 0 → yV l x g M R ce sl F (pc + 3) L st d) : yV l x g M R ce sl F pc L (zi a :: st) d := by
  obtain ⟨p, e, s, m, args, below, meth, c, A⟩ := x
  intro ok H locs ls hP hD hS hl
  exact lv_if_ge ok.1 ok.2.1 hd ht (fun hc => kt ((zle zin0 ha).mp hc) ok H locs ls hP hD hS hl) (fun hc => kf (Int.not_le.mp (fun z => hc ((zle zin0 ha).mpr z))) ok H locs ls hP hD hS hl)
theorem y_icmp_gt {a b : Int} {off : Int} (t : Nat) (ha : zin a) (hb : zin b) (hd : decode M.2.2.1 pc = .ok (.if_icmp .gt off, 3)) (ht : (pc : Int) + off = (t : Int)) (kt : b < a → yV l x g M R ce sl F t L st d) (kf : a ≤ b → yV l x g M R ce sl F (pc + 3) L st d) : yV l x g M R ce sl F pc L (zi b :: zi a :: st) d := by
  obtain ⟨p, e, s, m, args, below, meth, c, A⟩ := x
  intro ok H locs ls hP hD hS hl
  exact lv_icmp_gt ok.1 ok.2.1 hd ht (fun hc => kt ((zlt hb ha).mp hc) ok H locs ls hP hD hS hl) (fun hc => kf (Int.not_lt.mp (fun z => hc ((zlt hb ha).mpr z))) ok H locs ls hP hD hS hl)
theorem y_if_gt {a : Int} {off : Int} (t : Nat) (ha : zin a) (hd : decode M.2.2.1 pc = .ok (.ifCond .gt off, 3)) (ht : (pc : Int) + off = (t : Int)) (kt : 0 < a → yV l x g M R ce sl F t L st d) (kf : a ≤ 0 → yV l x g M R ce sl F (pc + 3) L st d) : yV l x g M R ce sl F pc L (zi a :: st) d := by
  obtain ⟨p, e, s, m, args, below, meth, c, A⟩ := x
  intro ok H locs ls hP hD hS hl
  exact lv_if_gt ok.1 ok.2.1 hd ht (fun hc => kt ((zlt zin0 ha).mp hc) ok H locs ls hP hD hS hl) (fun hc => kf (Int.not_lt.mp (fun z => hc ((zlt zin0 ha).mpr z))) ok H locs ls hP hD hS hl)
theorem y_icmp_le {a b : Int} {off : Int} (t : Nat) (ha : zin a) (hb : zin b) (hd : decode M.2.2.1 pc = .ok (.if_icmp .le off, 3)) (ht : (pc : Int) + off = (t : Int)) (kt : a ≤ b → yV l x g M R ce sl F t L st d) (kf : b < a → yV l x g M R ce sl F (pc + 3) L st d) : yV l x g M R ce sl F pc L (zi b :: zi a :: st) d := by
  obtain ⟨p, e, s, m, args, below, meth, c, A⟩ := x
  intro ok H locs ls hP hD hS hl
  exact lv_icmp_le ok.1 ok.2.1 hd ht (fun hc => kt ((zle ha hb).mp hc) ok H locs ls hP hD hS hl) (fun hc => kf (Int.not_le.mp (fun z => hc ((zle ha hb).mpr z))) ok H locs ls hP hD hS hl)
theorem y_if_le {a : Int} {off : Int} (t : Nat) (ha : zin a) (hd : decode M.2.2.1 pc = .ok (.ifCond .le off, 3)) (ht : (pc : Int) + off = (t : Int)) (kt : a ≤ 0 → yV l x g M R ce sl F t L st d) (kf : 0 < a → yV l x g M R ce sl F (pc + 3) L st d) : yV l x g M R ce sl F pc L (zi a :: st) d := by
  obtain ⟨p, e, s, m, args, below, meth, c, A⟩ := x
  intro ok H locs ls hP hD hS hl
  exact lv_if_le ok.1 ok.2.1 hd ht (fun hc => kt ((zle ha zin0).mp hc) ok H locs ls hP hD hS hl) (fun hc => kf (Int.not_le.mp (fun z => hc ((zle ha zin0).mpr z))) ok H locs ls hP hD hS hl)
theorem y_if_eq_b {b : Bool} {off : Int} (t : Nat) (hd : decode M.2.2.1 pc = .ok (.ifCond .eq off, 3)) (ht : (pc : Int) + off = (t : Int)) (kt : b = false → yV l x g M R ce sl F t L st d) (kf : b = true → yV l x g M R ce sl F (pc + 3) L st d) : yV l x g M R ce sl F pc L (zi (zb b) :: st) d :=
  y_if_eq t (zb_in b) hd ht (fun h => kt (by cases b <;> simp_all [zb])) (fun h => kf (by cases b <;> simp_all [zb]))
theorem y_if_ne_b {b : Bool} {off : Int} (t : Nat) (hd : decode M.2.2.1 pc = .ok (.ifCond .ne off, 3)) (ht : (pc : Int) + off = (t : Int)) (kt : b = true → yV l x g M R ce sl F t L st d) (kf : b = false → yV l x g M R ce sl F (pc + 3) L st d) : yV l x g M R ce sl F pc L (zi (zb b) :: st) d :=
  y_if_ne t (zb_in b) hd ht (fun h => kt (by cases b <;> simp_all [zb])) (fun h => kf (by cases b <;> simp_all [zb]))
theorem yget {ci k q : Nat} {v : Value} {vs : List Value} {idx : Nat} (hf : zfl M.1 idx ci k) (hq : (zw g d)[q]? = some (g.2.2.1 q, .inr (ci, vs))) (hv : vs[k]? = some v) (hd : decode M.2.2.1 pc = .ok (.getfield idx, 3)) (kk : yV l x g M R ce sl F (pc + 3) L (v :: st) d) : yV l x g M R ce sl F pc L (zr g q :: st) d := by
  obtain ⟨p, e, s, m, args, below, meth, c, A⟩ := x
  intro ok H locs ls hP hD hS hl
  have kk' := kk ok H locs ls hP hD hS hl
  obtain ⟨hx, hb, hml, hown, hts, hr, hK, hA, hlk, hao, ham⟩ := ok
  obtain ⟨C, T, N, hc, hk, hin, hlink⟩ := hf
  rcases hlink with hlink | ⟨host, hlink⟩
  · exact va_get hx hb hts hin hown hK hP q hq hc k hk (hts _ hlink) (fun _ h => h) hv hd kk'
  · exact va_getN (host := host) hx hb hts hin hown hK hP q hq hc k hk (va_Nw.use (by rfl) (hao.2.2.2.2 _ _ _ ham _ hlink)) (fun _ h => h) hv hd kk'
theorem y_geti {ci k q : Nat} {fs : List (Option Nat)} {idx : Nat} (hf : zfl M.1 idx ci k) (hq : q < zN) (hsh : zsh q = .inl (ci, fs)) (hk : fs[k]? = some none) (hd : decode M.2.2.1 pc = .ok (.getfield idx, 3)) (kk : yV l x g M R ce sl F (pc + 3) L (zi (d q k) :: st) d) : yV l x g M R ce sl F pc L (zr g q :: st) d := by
  refine yget hf (by rw [zw_at g d hq, zcell_o g d hsh]) ?_ hd kk
  have := zfv_get_n g (d q) fs 0 k hk
  rwa [Nat.zero_add] at this
theorem y_getr {ci k q t : Nat} {fs : List (Option Nat)} {idx : Nat} (hf : zfl M.1 idx ci k) (hq : q < zN) (hsh : zsh q = .inl (ci, fs)) (hk : fs[k]? = some (some t)) (hd : decode M.2.2.1 pc = .ok (.getfield idx, 3)) (kk : yV l x g M R ce sl F (pc + 3) L (zr g t :: st) d) : yV l x g M R ce sl F pc L (zr g q :: st) d :=
  yget hf (by rw [zw_at g d hq, zcell_o g d hsh]) (zfv_get_s g (d q) fs 0 k hk) hd kk
theorem y_putg {ci k q : Nat} {fs : List (Option Nat)} {idx : Nat} {ty : FieldType} {v : Int} (hf : zfp M.1 idx ci k ty) (hq : q < zN) (hsh : zsh q = .inl (ci, fs)) (hk : fs[k]? = some none) (hn : narrow ty (zi v) = zi v) (hfit : fits ty (zi v) = true) (hd : decode M.2.2.1 pc = .ok (.putfield idx, 3)) (kk : yV l x g M R ce sl F (pc + 3) L st (zu d q k v)) : yV l x g M R ce sl F pc L (zi v :: zr g q :: st) d := by
  obtain ⟨p, e, s, m, args, below, meth, c, A⟩ := x
  intro ok H locs ls hP hD hS hl
  have ok' := ok
  obtain ⟨hx, hb, hml, hown, hts, hr, hK, hA, hlk, hao, ham⟩ := ok
  obtain ⟨C, T, N, ty0, hc, hkN, hin, hlink, hty, hnm, hfin, hpd⟩ := hf
  have hat : (zw g d)[q]? = some (g.2.2.1 q, .inr (ci, zfv g (d q) 0 fs)) := by rw [zw_at g d hq, zcell_o g d hsh]
  have hset : (zw g d).set q (g.2.2.1 q, .inr (ci, (zfv g (d q) 0 fs).set k (zi v))) = zw g (zu d q k v) := by
    refine zw_set g hq (fun j hj => zu_ne hj) ?_
    rw [zcell_o g _ hsh, zfv_set g fs 0 k hk (r' := zu d q k v q) (v := v) (fun j hj => by rw [zu_row]; rw [if_neg (by omega)]) (by rw [Nat.zero_add]; exact zu_at d q k v)]
  have hlen : k < (zfv g (d q) 0 fs).length := by rw [zfv_len]; exact (List.getElem?_eq_some_iff.mp hk).1
  rcases hlink with hlink | ⟨host, hlink⟩
  · exact va_put hx hb hts hin ty0 hty hnm hown hK hP hD hS q hat hc k hkN (hts _ hlink) (fun _ h => h) hfin hpd hn hfit hlen hd (fun H1 locs1 hP1 hD1 hS1 => by rw [hset] at hP1 hD1; exact kk ok' H1 locs1 ls hP1 hD1 hS1 hl)
  · exact va_putN (host := host) hx hb hts hin ty0 hty hnm hown hK hP hD hS q hat hc k hkN (va_Nw.use (by rfl) (hao.2.2.2.2 _ _ _ ham _ hlink)) (fun _ h => h) hfin hpd hn hfit hlen hd (fun H1 locs1 hP1 hD1 hS1 => by rw [hset] at hP1 hD1; exact kk ok' H1 locs1 ls hP1 hD1 hS1 hl)
theorem y_puti {ci k q : Nat} {fs : List (Option Nat)} {idx : Nat} {v : Int} (hf : zfp M.1 idx ci k .int) (hq : q < zN) (hsh : zsh q = .inl (ci, fs)) (hk : fs[k]? = some none) (hd : decode M.2.2.1 pc = .ok (.putfield idx, 3)) (kk : yV l x g M R ce sl F (pc + 3) L st (zu d q k v)) : yV l x g M R ce sl F pc L (zi v :: zr g q :: st) d :=
  y_putg hf hq hsh hk rfl rfl hd kk
theorem y_putb {ci k q : Nat} {fs : List (Option Nat)} {idx : Nat} {b : Bool} (hf : zfp M.1 idx ci k .boolean) (hq : q < zN) (hsh : zsh q = .inl (ci, fs)) (hk : fs[k]? = some none) (hd : decode M.2.2.1 pc = .ok (.putfield idx, 3)) (kk : yV l x g M R ce sl F (pc + 3) L st (zu d q k (zb b))) : yV l x g M R ce sl F pc L (zi (zb b) :: zr g q :: st) d :=
  y_putg hf hq hsh hk (by cases b <;> decide +kernel) (by cases b <;> decide +kernel) hd kk
theorem y_iald {q sz : Nat} {a : Int} (j : Nat) (hq : q < zN) (hsh : zsh q = .inr (0, sz)) (ha : a = (j : Int)) (hj : j < sz) (hsz : sz < 2147483648) (hd : decode M.2.2.1 pc = .ok (.iaload, 1)) (kk : yV l x g M R ce sl F (pc + 1) L (zi (d q j) :: st) d) : yV l x g M R ce sl F pc L (zi a :: zr g q :: st) d := by
  obtain ⟨p, e, s, m, args, below, meth, c, A⟩ := x
  intro ok H locs ls hP hD hS hl
  subst ha
  have kk' := kk ok H locs ls hP hD hS hl
  have hat : (zw g d)[q]? = some (g.2.2.1 q, .inl (g.2.2.2.1 0, sz, .inl (fun i => Int32.ofInt (d q i)))) := by rw [zw_at g d hq, zcell_a g d hsh (by decide)]
  refine va_iald ok.1 ok.2.1 ok.2.2.2.2.2.2.1 hP q 0 hat rfl (zvin hj hsz) hd ?_
  rw [zclamp (by omega)]
  exact kk'
theorem y_bald {q sz : Nat} {a : Int} (j : Nat) (hq : q < zN) (hsh : zsh q = .inr (1, sz)) (ha : a = (j : Int)) (hj : j < sz) (hsz : sz < 2147483648) (hd : decode M.2.2.1 pc = .ok (.baload, 1)) (kk : yV l x g M R ce sl F (pc + 1) L (zi (d q j) :: st) d) : yV l x g M R ce sl F pc L (zi a :: zr g q :: st) d := by
  obtain ⟨p, e, s, m, args, below, meth, c, A⟩ := x
  intro ok H locs ls hP hD hS hl
  subst ha
  have kk' := kk ok H locs ls hP hD hS hl
  have hat : (zw g d)[q]? = some (g.2.2.1 q, .inl (g.2.2.2.1 1, sz, .inl (fun i => Int32.ofInt (d q i)))) := by rw [zw_at g d hq, zcell_a g d hsh (by decide)]
  refine va_zald ok.1 ok.2.1 ok.2.2.2.2.2.2.1 hP q 1 hat rfl (zvin hj hsz) hd ?_
  rw [zclamp (by omega)]
  exact kk'
theorem y_iast {q sz : Nat} {a v : Int} (j : Nat) (hq : q < zN) (hsh : zsh q = .inr (0, sz)) (ha : a = (j : Int)) (hj : j < sz) (hsz : sz < 2147483648) (hd : decode M.2.2.1 pc = .ok (.iastore, 1)) (kk : yV l x g M R ce sl F (pc + 1) L st (zu d q j v)) : yV l x g M R ce sl F pc L (zi v :: zi a :: zr g q :: st) d := by
  obtain ⟨p, e, s, m, args, below, meth, c, A⟩ := x
  intro ok H locs ls hP hD hS hl
  subst ha
  have hat : (zw g d)[q]? = some (g.2.2.1 q, .inl (g.2.2.2.1 0, sz, .inl (fun i => Int32.ofInt (d q i)))) := by rw [zw_at g d hq, zcell_a g d hsh (by decide)]
  have hset : (zw g d).set q (g.2.2.1 q, .inl (g.2.2.2.1 0, sz, .inl (upd (fun i => Int32.ofInt (d q i)) (Int32.ofInt (j : Int)).toNatClampNeg (Int32.ofInt v)))) = zw g (zu d q j v) := by
    refine zw_set g hq (fun i hi => zu_ne hi) ?_
    rw [zcell_a g _ hsh (by decide), zclamp (by omega)]
    congr 4
    funext i
    by_cases hi : i = j
    · subst hi; rw [pk_us, zu_at]
    · rw [pk_un hi, zu_row, if_neg hi]
  exact va_iast ok.1 ok.2.1 ok.2.2.2.2.2.2.1 hP hD hS q 0 hat rfl (zvin hj hsz) hd (fun H1 locs1 hP1 hD1 hS1 => by rw [hset] at hP1 hD1; exact kk ok H1 locs1 ls hP1 hD1 hS1 hl)
theorem y_bast {q sz : Nat} {a : Int} {b : Bool} (j : Nat) (hq : q < zN) (hsh : zsh q = .inr (1, sz)) (ha : a = (j : Int)) (hj : j < sz) (hsz : sz < 2147483648) (hd : decode M.2.2.1 pc = .ok (.bastore, 1)) (kk : yV l x g M R ce sl F (pc + 1) L st (zu d q j (zb b))) : yV l x g M R ce sl F pc L (zi (zb b) :: zi a :: zr g q :: st) d := by
  obtain ⟨p, e, s, m, args, below, meth, c, A⟩ := x
  intro ok H locs ls hP hD hS hl
  subst ha
  have hat : (zw g d)[q]? = some (g.2.2.1 q, .inl (g.2.2.2.1 1, sz, .inl (fun i => Int32.ofInt (d q i)))) := by rw [zw_at g d hq, zcell_a g d hsh (by decide)]
  have hset : (zw g d).set q (g.2.2.1 q, .inl (g.2.2.2.1 1, sz, .inl (upd (fun i => Int32.ofInt (d q i)) (Int32.ofInt (j : Int)).toNatClampNeg (vp_nar .boolean (Int32.ofInt (zb b)))))) = zw g (zu d q j (zb b)) := by
    refine zw_set g hq (fun i hi => zu_ne hi) ?_
    rw [zcell_a g _ hsh (by decide), zclamp (by omega)]
    have hnb : vp_nar .boolean (Int32.ofInt (zb b)) = Int32.ofInt (zb b) := by cases b <;> decide +kernel
    rw [hnb]
    congr 4
    funext i
    by_cases hi : i = j
    · subst hi; rw [pk_us, zu_at]
    · rw [pk_un hi, zu_row, if_neg hi]
  exact va_zast ok.1 ok.2.1 ok.2.2.2.2.2.2.1 hP hD hS q 1 hat rfl (zvin hj hsz) hd (fun H1 locs1 hP1 hD1 hS1 => by rw [hset] at hP1 hD1; exact kk ok H1 locs1 ls hP1 hD1 hS1 hl)
theorem y_alen {q t sz : Nat} (hq : q < zN) (hsh : zsh q = .inr (t, sz)) (ht : t < 2) (hd : decode M.2.2.1 pc = .ok (.arraylength, 1)) (kk : yV l x g M R ce sl F (pc + 1) L (zi (sz : Int) :: st) d) : yV l x g M R ce sl F pc L (zr g q :: st) d := by
  obtain ⟨p, e, s, m, args, below, meth, c, A⟩ := x
  intro ok H locs ls hP hD hS hl
  have kk' := kk ok H locs ls hP hD hS hl
  have hat : (zw g d)[q]? = some (g.2.2.1 q, .inl (g.2.2.2.1 t, sz, .inl (fun i => Int32.ofInt (d q i)))) := by rw [zw_at g d hq, zcell_a g d hsh (by omega)]
  have ht' : ∃ ty, (zty g)[t]? = some (g.2.2.2.1 t, ty) := by
    rcases (show t = 0 ∨ t = 1 by omega) with rfl | rfl
    · exact ⟨_, rfl⟩
    · exact ⟨_, rfl⟩
  obtain ⟨ty, hty⟩ := ht'
  exact va_alen ok.1 ok.2.1 ok.2.2.2.2.2.2.1 hP q t hat hty (v := Int32.ofInt (sz : Int)) rfl hd kk'
theorem y_sub {L' : List (Nat × Value)} (ks : List Nat) (hL : lv_pick L ks = L') (k : yV l x g M R ce sl F pc L' st d) : yV l x g M R ce sl F pc L st d := by
  obtain ⟨p, e, s, m, args, below, meth, c, A⟩ := x
  intro ok H locs ls hP hD hS hl
  exact k ok H locs ls hP hD hS (lv_sub hl ks hL)
end
theorem ypure {l : Launch} {x : zX} {g : zG} {M : zM} {R : Room} {ce sl : Nat} {F : State → Prop} {pc : Nat} {L : List (Nat × Value)} {st : List Value} {d : zD} {w : Value} (k : yV l x g M R ce sl F pc L (w :: st) d) : ∀ (r : Option Value) (d' : zD), (r = some w ∧ d' = d) → yV l x g M R ce sl F pc L (r.toList ++ st) d' := by
  rintro r d' ⟨rfl, rfl⟩
  exact k
theorem yvoid {l : Launch} {x : zX} {g : zG} {M : zM} {R : Room} {ce sl : Nat} {F : State → Prop} {pc : Nat} {L : List (Nat × Value)} {st : List Value} {P : zD → Prop} (k : ∀ d', P d' → yV l x g M R ce sl F pc L st d') : ∀ (r : Option Value) (d' : zD), (r = none ∧ P d') → yV l x g M R ce sl F pc L (r.toList ++ st) d' := by
  rintro r d' ⟨rfl, h⟩
  exact k d' h
theorem y_top {l : Launch} {x : zX} {g : zG} {M : zM} {R : Room} {ce sl : Nat} {F : State → Prop} {pc : Nat} {L : List (Nat × Value)} {st : List Value} {d : zD} {a : Int} (b : Int) (h : a = b) (k : yV l x g M R ce sl F pc L (zi b :: st) d) : yV l x g M R ce sl F pc L (zi a :: st) d := by subst h; exact k
theorem y_top2 {l : Launch} {x : zX} {g : zG} {M : zM} {R : Room} {ce sl : Nat} {F : State → Prop} {pc : Nat} {L : List (Nat × Value)} {v : Value} {st : List Value} {d : zD} {a : Int} (b : Int) (h : a = b) (k : yV l x g M R ce sl F pc L (v :: zi b :: st) d) : yV l x g M R ce sl F pc L (v :: zi a :: st) d := by subst h; exact k
theorem y_top3 {l : Launch} {x : zX} {g : zG} {M : zM} {R : Room} {ce sl : Nat} {F : State → Prop} {pc : Nat} {L : List (Nat × Value)} {v w : Value} {st : List Value} {d : zD} {a : Int} (b : Int) (h : a = b) (k : yV l x g M R ce sl F pc L (v :: w :: zi b :: st) d) : yV l x g M R ce sl F pc L (v :: w :: zi a :: st) d := by subst h; exact k
theorem y_dd {l : Launch} {x : zX} {g : zG} {M : zM} {R : Room} {ce sl : Nat} {F : State → Prop} {pc : Nat} {L : List (Nat × Value)} {st : List Value} {d : zD} (d' : zD) (h : d = d') (k : yV l x g M R ce sl F pc L st d') : yV l x g M R ce sl F pc L st d := by subst h; exact k
theorem y_LL {l : Launch} {x : zX} {g : zG} {M : zM} {R : Room} {ce sl : Nat} {F : State → Prop} {pc : Nat} {L : List (Nat × Value)} {st : List Value} {d : zD} (L' : List (Nat × Value)) (h : L = L') (k : yV l x g M R ce sl F pc L' st d) : yV l x g M R ce sl F pc L st d := by subst h; exact k
section
variable {l : Launch} {x : zX} {g : zG} {M : zM} {R : Room} {ce sl : Nat} {F : State → Prop} {pc : Nat} {L : List (Nat × Value)} {st : List Value} {d : zD}
theorem y_i2l {a : Int} (ha : zin a) (hd : decode M.2.2.1 pc = .ok (.i2l, 1)) (k : yV l x g M R ce sl F (pc + 1) L (zl a :: st) d) : yV l x g M R ce sl F pc L (zi a :: st) d := by
  obtain ⟨p, e, s, m, args, below, meth, c, A⟩ := x
  intro ok H locs ls hP hD hS hl
  exact lv_i2l ok.1 ok.2.1 hd (zi2l ha) (k ok H locs ls hP hD hS hl)
theorem y_tabOut {a : Int} {dflt lo hi : Int} {offs : Array Int} {len : Nat} (t : Nat) (ha : zin a) (h : a < lo ∨ hi < a) (ht : (pc : Int) + dflt = (t : Int)) (hd : decode M.2.2.1 pc = .ok (.tableswitch dflt lo hi offs, len)) (k : yV l x g M R ce sl F t L st d) : yV l x g M R ce sl F pc L (zi a :: st) d := by
  obtain ⟨p, e, s, m, args, below, meth, c, A⟩ := x
  intro ok H locs ls hP hD hS hl
  exact lv_tableOut ok.1 ok.2.1 hd (by rw [zto ha]; exact h) ht (k ok H locs ls hP hD hS hl)
theorem y_tabIn {a : Int} {dflt lo hi : Int} {offs : Array Int} {len : Nat} {off : Int} (t : Nat) (b : Int) (e : a = b) (hb : zin b) (h1 : ¬ b < lo) (h2 : ¬ hi < b) (ho : offs[(b - lo).toNat]? = some off) (ht : (pc : Int) + off = (t : Int)) (hd : decode M.2.2.1 pc = .ok (.tableswitch dflt lo hi offs, len)) (k : yV l x g M R ce sl F t L st d) : yV l x g M R ce sl F pc L (zi a :: st) d := by
  subst e
  obtain ⟨p, e, s, m, args, below, meth, c, A⟩ := x
  intro ok H locs ls hP hD hS hl
  exact lv_tableIn ok.1 ok.2.1 hd (by rw [zto hb]; exact h1) (by rw [zto hb]; exact h2) (by rw [zto hb]; exact ho) ht (k ok H locs ls hP hD hS hl)
end
theorem y_topv {l : Launch} {x : zX} {g : zG} {M : zM} {R : Room} {ce sl : Nat} {F : State → Prop} {pc : Nat} {L : List (Nat × Value)} {st : List Value} {d : zD} {a : Value} (b : Value) (h : a = b) (k : yV l x g M R ce sl F pc L (b :: st) d) : yV l x g M R ce sl F pc L (a :: st) d := by subst h; exact k
theorem y_topv2 {l : Launch} {x : zX} {g : zG} {M : zM} {R : Room} {ce sl : Nat} {F : State → Prop} {pc : Nat} {L : List (Nat × Value)} {c : Value} {st : List Value} {d : zD} {a : Value} (b : Value) (h : a = b) (k : yV l x g M R ce sl F pc L (c :: b :: st) d) : yV l x g M R ce sl F pc L (c :: a :: st) d := by subst h; exact k
section
variable {l : Launch} {x : zX} {g : zG} {M : zM} {R : Room} {ce sl : Nat} {F : State → Prop} {pc : Nat} {L : List (Nat × Value)} {st : List Value} {d : zD} {adK adV : Nat → Nat}
theorem y_aloads_n (j : Nat) {i q : Nat} {kk : Fin 4} (hd : decode M.2.2.1 pc = .ok (.aload_n kk, 1)) (hi : (kk : Nat) = i) (hj : L[j]? = some (i, zs q)) (k : yV l x g M R ce sl F (pc + 1) L (zs q :: st) d) : yV l x g M R ce sl F pc L st d := by
  obtain ⟨p, e, s, m, args, below, meth, c, A⟩ := x
  intro ok H locs ls hP hD hS hl
  exact lv_aload_n ok.1 ok.2.1 hd hi (lv_at hl j hj) (k ok H locs ls hP hD hS hl)
end
section
variable {l : Launch} {x : zX} {g : zG} {M : zM} {R : Room} {ce sl : Nat} {F : State → Prop} {pc : Nat} {L : List (Nat × Value)} {st : List Value} {d : zD}
theorem y_lcmp {a b : Int} (ha : zinL a) (hb : zinL b) (hd : decode M.2.2.1 pc = .ok (.lcmp, 1)) (k : yV l x g M R ce sl F (pc + 1) L (zi (if a < b then -1 else if a = b then 0 else 1) :: st) d) : yV l x g M R ce sl F pc L (zl b :: zl a :: st) d := by
  obtain ⟨p, e, s, m, args, below, meth, c, A⟩ := x
  intro ok H locs ls hP hD hS hl
  refine W.lcmp ok.1 ok.2.1 hd ?_
  have e : lg_cmp (Int64.ofInt a) (Int64.ofInt b) = Int32.ofInt (if a < b then -1 else if a = b then 0 else 1) := by
    unfold lg_cmp
    by_cases h : a < b
    · rw [if_pos h, if_neg (by rw [gt_iff_lt, zltL hb ha]; omega), if_neg (by rw [zeqL ha hb]; omega)]; decide
    · rw [if_neg h]
      by_cases h2 : a = b
      · rw [if_pos h2, if_neg (by rw [gt_iff_lt, zltL hb ha]; omega), if_pos (by rw [zeqL ha hb]; omega)]; decide
      · rw [if_neg h2, if_pos (by rw [gt_iff_lt, zltL hb ha]; omega)]; decide
  rw [e]
  exact k ok H locs ls hP hD hS hl
theorem y_lald {q sz : Nat} {a : Int} (j : Nat) (hq : q < zN) (hsh : zsh q = .inr (2, sz)) (ha : a = (j : Int)) (hj : j < sz) (hsz : sz < 2147483648) (hd : decode M.2.2.1 pc = .ok (.laload, 1)) (kk : yV l x g M R ce sl F (pc + 1) L (zl (d q j) :: st) d) : yV l x g M R ce sl F pc L (zi a :: zr g q :: st) d := by
  obtain ⟨p, e, s, m, args, below, meth, c, A⟩ := x
  intro ok H locs ls hP hD hS hl
  subst ha
  have kk' := kk ok H locs ls hP hD hS hl
  have hat : (zw g d)[q]? = some (g.2.2.1 q, .inl (g.2.2.2.1 2, sz, .inr (.inl (fun i => Int64.ofInt (d q i))))) := by rw [zw_at g d hq, zcell_l g d hsh]
  refine va_lald ok.1 ok.2.1 ok.2.2.2.2.2.2.1 hP q 2 hat rfl (zvin hj hsz) hd ?_
  rw [zclamp (by omega)]
  exact kk'
theorem y_last {q sz : Nat} {a v : Int} (j : Nat) (hq : q < zN) (hsh : zsh q = .inr (2, sz)) (ha : a = (j : Int)) (hj : j < sz) (hsz : sz < 2147483648) (hd : decode M.2.2.1 pc = .ok (.lastore, 1)) (kk : yV l x g M R ce sl F (pc + 1) L st (zu d q j v)) : yV l x g M R ce sl F pc L (zl v :: zi a :: zr g q :: st) d := by
  obtain ⟨p, e, s, m, args, below, meth, c, A⟩ := x
  intro ok H locs ls hP hD hS hl
  subst ha
  have hat : (zw g d)[q]? = some (g.2.2.1 q, .inl (g.2.2.2.1 2, sz, .inr (.inl (fun i => Int64.ofInt (d q i))))) := by rw [zw_at g d hq, zcell_l g d hsh]
  have hset : (zw g d).set q (g.2.2.1 q, .inl (g.2.2.2.1 2, sz, .inr (.inl (vp_updL (fun i => Int64.ofInt (d q i)) (Int32.ofInt (j : Int)).toNatClampNeg (Int64.ofInt v))))) = zw g (zu d q j v) := by
    refine zw_set g hq (fun i hi => zu_ne hi) ?_
    rw [zcell_l g _ hsh, zclamp (by omega)]
    congr 5
    funext i
    simp only [vp_updL, zu_row]
    split <;> rfl
  refine va_last ok.1 ok.2.1 ok.2.2.2.2.2.2.1 hP hD hS q 2 hat rfl (zvin hj hsz) hd (fun H1 locs1 hP1 hD1 hS1 => ?_)
  rw [hset] at hP1 hD1
  exact kk ok H1 locs1 ls hP1 hD1 hS1 hl
end
