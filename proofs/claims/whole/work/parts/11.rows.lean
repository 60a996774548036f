section ZR
variable {l : Launch} {x : zX} {g : zG} {M : zM} {n : Nat} {Q : Option Value → zD → Prop} {pc : Nat} {L : List (Nat × Value)} {st : List Value} {d : zD}
theorem z_iconst {a : Int} (hd : decode M.2.2.1 pc = .ok (.iconst a, 1)) (k : zV l x g M n Q (pc + 1) L (zi a :: st) d) : zV l x g M n Q pc L (st) d := by
  obtain ⟨p, e, s, m, args, below, meth, c, A⟩ := x
  intro ok H locs ls hP hD hS hl
  exact lv_iconst ok.1 ok.2.1 hd rfl (k ok H locs ls hP hD hS hl)
theorem z_bipush {a : Int} (hd : decode M.2.2.1 pc = .ok (.bipush a, 2)) (ha : (Int8.ofInt a).toInt32 = Int32.ofInt a) (k : zV l x g M n Q (pc + 2) L (zi a :: st) d) : zV l x g M n Q pc L (st) d := by
  obtain ⟨p, e, s, m, args, below, meth, c, A⟩ := x
  intro ok H locs ls hP hD hS hl
  exact lv_bipush ok.1 ok.2.1 hd ha (k ok H locs ls hP hD hS hl)
theorem z_sipush {a : Int} (hd : decode M.2.2.1 pc = .ok (.sipush a, 3)) (ha : (Int16.ofInt a).toInt32 = Int32.ofInt a) (k : zV l x g M n Q (pc + 3) L (zi a :: st) d) : zV l x g M n Q pc L (st) d := by
  obtain ⟨p, e, s, m, args, below, meth, c, A⟩ := x
  intro ok H locs ls hP hD hS hl
  exact lv_sipush ok.1 ok.2.1 hd ha (k ok H locs ls hP hD hS hl)
theorem z_iload_n (j : Nat) {i : Nat} {kk : Fin 4} {a : Int} (hd : decode M.2.2.1 pc = .ok (.iload_n kk, 1)) (hi : (kk : Nat) = i) (hj : L[j]? = some (i, zi a)) (k : zV l x g M n Q (pc + 1) L (zi a :: st) d) : zV l x g M n Q pc L (st) d := by
  obtain ⟨p, e, s, m, args, below, meth, c, A⟩ := x
  intro ok H locs ls hP hD hS hl
  exact lv_iload_n ok.1 ok.2.1 hd hi (lv_at hl j hj) (k ok H locs ls hP hD hS hl)
theorem z_iload (j : Nat) {i : Nat} {a : Int} (hd : decode M.2.2.1 pc = .ok (.iload i, 2)) (hj : L[j]? = some (i, zi a)) (k : zV l x g M n Q (pc + 2) L (zi a :: st) d) : zV l x g M n Q pc L (st) d := by
  obtain ⟨p, e, s, m, args, below, meth, c, A⟩ := x
  intro ok H locs ls hP hD hS hl
  exact lv_iload ok.1 ok.2.1 hd (lv_at hl j hj) (k ok H locs ls hP hD hS hl)
theorem z_aload_n (j : Nat) {i : Nat} {kk : Fin 4} {q : Nat} (hd : decode M.2.2.1 pc = .ok (.aload_n kk, 1)) (hi : (kk : Nat) = i) (hj : L[j]? = some (i, zr g q)) (k : zV l x g M n Q (pc + 1) L (zr g q :: st) d) : zV l x g M n Q pc L (st) d := by
  obtain ⟨p, e, s, m, args, below, meth, c, A⟩ := x
  intro ok H locs ls hP hD hS hl
  exact lv_aload_n ok.1 ok.2.1 hd hi (lv_at hl j hj) (k ok H locs ls hP hD hS hl)
theorem z_aload (j : Nat) {i : Nat} {q : Nat} (hd : decode M.2.2.1 pc = .ok (.aload i, 2)) (hj : L[j]? = some (i, zr g q)) (k : zV l x g M n Q (pc + 2) L (zr g q :: st) d) : zV l x g M n Q pc L (st) d := by
  obtain ⟨p, e, s, m, args, below, meth, c, A⟩ := x
  intro ok H locs ls hP hD hS hl
  exact lv_aload ok.1 ok.2.1 hd (lv_at hl j hj) (k ok H locs ls hP hD hS hl)
theorem z_lload_n (j : Nat) {i : Nat} {kk : Fin 4} {a : Int} (hd : decode M.2.2.1 pc = .ok (.lload_n kk, 1)) (hi : (kk : Nat) = i) (hj : L[j]? = some (i, zl a)) (k : zV l x g M n Q (pc + 1) L (zl a :: st) d) : zV l x g M n Q pc L (st) d := by
  obtain ⟨p, e, s, m, args, below, meth, c, A⟩ := x
  intro ok H locs ls hP hD hS hl
  exact lv_lload_n ok.1 ok.2.1 hd hi (lv_at hl j hj) (k ok H locs ls hP hD hS hl)
/-- a local is set: the list sorted by number -/
def zset : List (Nat × Value) → Nat → Value → List (Nat × Value)
  | [], i, v => [(i, v)]
  | (j, w) :: t, i, v => if j = i then (i, v) :: t else if j < i then (if j + 1 = i ∧ w.category = 2 then zset t i v else (j, w) :: zset t i v) else (i, v) :: (j, w) :: t
def zsorted : List (Nat × Value) → Bool
  | [] => true
  | [_] => true
  | (i, v) :: (j, w) :: t => decide (i < j) && zsorted ((j, w) :: t)
def zlows (i : Nat) : List (Nat × Value) → Bool
  | [] => true
  | (j, _) :: t => decide (i < j) && zlows i t
/-- the numbers rise -/
def zup : List (Nat × Value) → Bool
  | [] => true
  | (j, _) :: t => zlows j t && zup t
theorem zlows_mem {i : Nat} : ∀ {L : List (Nat × Value)}, zlows i L = true → ∀ q ∈ L, i < q.1
  | [], _, q, h => by cases h
  | (j, w) :: t, hl, q, h => by
    simp only [zlows, Bool.and_eq_true, decide_eq_true_eq] at hl
    rcases List.mem_cons.mp h with rfl | h
    · exact hl.1
    · exact zlows_mem hl.2 q h
theorem zset_mem {i : Nat} {v : Value} : ∀ {L : List (Nat × Value)}, zup L = true → ∀ q ∈ zset L i v, q = (i, v) ∨ (q ∈ L ∧ q.1 ≠ i ∧ ¬ (q.1 + 1 = i ∧ q.2.category = 2))
  | [], _, q, h => by
    simp only [zset, List.mem_singleton] at h
    exact Or.inl h
  | (j, w) :: t, hu, q, h => by
    simp only [zup, Bool.and_eq_true] at hu
    simp only [zset] at h
    split at h
    · rename_i hji
      rcases List.mem_cons.mp h with h | h
      · exact Or.inl h
      · have := zlows_mem hu.1 q h
        exact Or.inr ⟨List.mem_cons_of_mem _ h, by omega, by omega⟩
    · rename_i hji
      split at h
      · rename_i hlt
        split at h
        · rcases zset_mem hu.2 q h with h | h
          · exact Or.inl h
          · exact Or.inr ⟨List.mem_cons_of_mem _ h.1, h.2⟩
        · rename_i hc
          rcases List.mem_cons.mp h with h | h
          · subst h
            exact Or.inr ⟨List.mem_cons_self, hji, hc⟩
          · rcases zset_mem hu.2 q h with h | h
            · exact Or.inl h
            · exact Or.inr ⟨List.mem_cons_of_mem _ h.1, h.2⟩
      · rename_i hlt
        rcases List.mem_cons.mp h with h | h
        · exact Or.inl h
        · refine Or.inr ⟨h, ?_⟩
          have : i < q.1 := by
            rcases List.mem_cons.mp h with rfl | h
            · show i < j; omega
            · have := zlows_mem hu.1 q h; omega
          exact ⟨by omega, by omega⟩
theorem zset_has {i nL : Nat} {v : Value} {L : List (Nat × Value)} {ls : Array Slot} (hu : zup L = true) (h : lv_has ls nL ((i, v) :: L.filter (fun q => !(q.1 == i) && !(q.1 + 1 == i && q.2.category == 2)))) : lv_has ls nL (zset L i v) := by
  refine ⟨h.1, h.2.1, fun q hq => ?_⟩
  rcases zset_mem hu q hq with rfl | ⟨h1, h2, h3⟩
  · exact h.2.2 _ List.mem_cons_self
  · refine h.2.2 q (List.mem_cons_of_mem _ (List.mem_filter.mpr ⟨h1, ?_⟩))
    simp only [Bool.and_eq_true, Bool.not_eq_true', beq_eq_false_iff_ne, ne_eq, Bool.and_eq_false_iff]
    refine ⟨h2, ?_⟩
    by_cases hc : q.1 + 1 = i
    · exact Or.inr (fun z => h3 ⟨hc, z⟩)
    · exact Or.inl hc
theorem z_istore_n {i : Nat} {kk : Fin 4} {a : Int} {L' : List (Nat × Value)} (hd : decode M.2.2.1 pc = .ok (.istore_n kk, 1)) (hi : (kk : Nat) = i) (hn : i < M.2.2.2.1) (hu : zup L = true) (hL : zset L i (zi a) = L') (k : zV l x g M n Q (pc + 1) L' st d) : zV l x g M n Q pc L (zi a :: st) d := by
  obtain ⟨p, e, s, m, args, below, meth, c, A⟩ := x
  intro ok H locs ls hP hD hS hl
  subst hL
  exact lv_istore_n ok.1 ok.2.1 hd hi hl hn rfl (fun ls' hl' => k ok H locs ls' hP hD hS (zset_has hu hl'))
theorem z_istore {i : Nat} {a : Int} {L' : List (Nat × Value)} (hd : decode M.2.2.1 pc = .ok (.istore i, 2)) (hn : i < M.2.2.2.1) (hu : zup L = true) (hL : zset L i (zi a) = L') (k : zV l x g M n Q (pc + 2) L' st d) : zV l x g M n Q pc L (zi a :: st) d := by
  obtain ⟨p, e, s, m, args, below, meth, c, A⟩ := x
  intro ok H locs ls hP hD hS hl
  subst hL
  exact lv_istore ok.1 ok.2.1 hd hl hn rfl (fun ls' hl' => k ok H locs ls' hP hD hS (zset_has hu hl'))
theorem z_astore_n {i : Nat} {kk : Fin 4} {q : Nat} {L' : List (Nat × Value)} (hd : decode M.2.2.1 pc = .ok (.astore_n kk, 1)) (hi : (kk : Nat) = i) (hn : i < M.2.2.2.1) (hu : zup L = true) (hL : zset L i (zr g q) = L') (k : zV l x g M n Q (pc + 1) L' st d) : zV l x g M n Q pc L (zr g q :: st) d := by
  obtain ⟨p, e, s, m, args, below, meth, c, A⟩ := x
  intro ok H locs ls hP hD hS hl
  subst hL
  exact lv_astore_n ok.1 ok.2.1 hd hi hl hn rfl (fun ls' hl' => k ok H locs ls' hP hD hS (zset_has hu hl'))
theorem z_astore {i : Nat} {q : Nat} {L' : List (Nat × Value)} (hd : decode M.2.2.1 pc = .ok (.astore i, 2)) (hn : i < M.2.2.2.1) (hu : zup L = true) (hL : zset L i (zr g q) = L') (k : zV l x g M n Q (pc + 2) L' st d) : zV l x g M n Q pc L (zr g q :: st) d := by
  obtain ⟨p, e, s, m, args, below, meth, c, A⟩ := x
  intro ok H locs ls hP hD hS hl
  subst hL
  exact lv_astore ok.1 ok.2.1 hd hl hn rfl (fun ls' hl' => k ok H locs ls' hP hD hS (zset_has hu hl'))
theorem z_iinc (j : Nat) {i : Nat} {a b : Int} {L' : List (Nat × Value)} (hd : decode M.2.2.1 pc = .ok (.iinc i b, 3)) (hn : i < M.2.2.2.1) (hu : zup L = true) (hj : L[j]? = some (i, zi a)) (hL : zset L i (zi (a + b)) = L') (k : zV l x g M n Q (pc + 3) L' st d) : zV l x g M n Q pc L st d := by
  obtain ⟨p, e, s, m, args, below, meth, c, A⟩ := x
  intro ok H locs ls hP hD hS hl
  subst hL
  exact lv_iinc ok.1 ok.2.1 hd hl hj (v := Int32.ofInt (a + b)) (Int32.ofInt_add a b).symm hn rfl (fun ls' hl' => k ok H locs ls' hP hD hS (zset_has hu hl'))
/-- a long in slots i and i + 1; the locals from i on are forgotten -/
theorem z_lstore_n {kk : Fin 4} {i : Nat} {a : Int} {L' : List (Nat × Value)} (hd : decode M.2.2.1 pc = .ok (.lstore_n kk, 1)) (hi : (kk : Nat) = i) (hn : i + 1 < M.2.2.2.1) (hL : L.filter (fun q => decide (q.1 + 1 < i) || (decide (q.1 < i) && q.2.category == 1)) ++ [(i, zl a)] = L') (k : zV l x g M n Q (pc + 1) L' st d) : zV l x g M n Q pc L (zl a :: st) d := by
  obtain ⟨p, e, s, m, args, below, meth, c, A⟩ := x
  intro ok H locs ls hP hD hS hl
  subst hL
  refine lv_lstore_n ok.1 ok.2.1 hd hi hl hn rfl (fun ls' hl' => k ok H locs ls' hP hD hS ⟨hl'.1, hl'.2.1, fun q hq => ?_⟩)
  rcases List.mem_append.mp hq with hq | hq
  · obtain ⟨h1, h2⟩ := List.mem_filter.mp hq
    refine hl'.2.2 q (List.mem_cons_of_mem _ (List.mem_filter.mpr ⟨h1, ?_⟩))
    simp only [Bool.or_eq_true, Bool.and_eq_true, decide_eq_true_eq, beq_iff_eq] at h2
    simp only [Bool.and_eq_true, Bool.not_eq_true', beq_eq_false_iff_ne, ne_eq, Bool.and_eq_false_iff]
    refine ⟨by omega, by omega, ?_⟩
    rcases h2 with h2 | h2
    · exact Or.inl (by omega)
    · exact Or.inr (by omega)
  · rw [List.mem_singleton] at hq
    subst hq
    exact hl'.2.2 _ List.mem_cons_self
theorem z_iadd {a b : Int} (hd : decode M.2.2.1 pc = .ok (.iadd, 1)) (k : zV l x g M n Q (pc + 1) L (zi (a + b) :: st) d) : zV l x g M n Q pc L (zi b :: zi a :: st) d := by
  obtain ⟨p, e, s, m, args, below, meth, c, A⟩ := x
  intro ok H locs ls hP hD hS hl
  exact lv_iadd ok.1 ok.2.1 hd (by rw [← Int32.ofInt_add]; exact k ok H locs ls hP hD hS hl)
theorem z_isub {a b : Int} (hd : decode M.2.2.1 pc = .ok (.isub, 1)) (k : zV l x g M n Q (pc + 1) L (zi (a - b) :: st) d) : zV l x g M n Q pc L (zi b :: zi a :: st) d := by
  obtain ⟨p, e, s, m, args, below, meth, c, A⟩ := x
  intro ok H locs ls hP hD hS hl
  exact lv_isub ok.1 ok.2.1 hd (by rw [← Int32.ofInt_sub]; exact k ok H locs ls hP hD hS hl)
theorem z_imul {a b : Int} (hd : decode M.2.2.1 pc = .ok (.imul, 1)) (k : zV l x g M n Q (pc + 1) L (zi (a * b) :: st) d) : zV l x g M n Q pc L (zi b :: zi a :: st) d := by
  obtain ⟨p, e, s, m, args, below, meth, c, A⟩ := x
  intro ok H locs ls hP hD hS hl
  exact lv_imul ok.1 ok.2.1 hd (by rw [← Int32.ofInt_mul]; exact k ok H locs ls hP hD hS hl)
theorem z_ineg {a : Int} (hd : decode M.2.2.1 pc = .ok (.ineg, 1)) (k : zV l x g M n Q (pc + 1) L (zi (-a) :: st) d) : zV l x g M n Q pc L (zi a :: st) d := by
  obtain ⟨p, e, s, m, args, below, meth, c, A⟩ := x
  intro ok H locs ls hP hD hS hl
  exact lv_ineg ok.1 ok.2.1 hd (by rw [← Int32.ofInt_neg]; exact k ok H locs ls hP hD hS hl)
theorem z_iand {a b : Int} (v : Int) (hv : Int32.ofInt a &&& Int32.ofInt b = Int32.ofInt v) (hd : decode M.2.2.1 pc = .ok (.iand, 1)) (k : zV l x g M n Q (pc + 1) L (zi v :: st) d) : zV l x g M n Q pc L (zi b :: zi a :: st) d := by
  obtain ⟨p, e, s, m, args, below, meth, c, A⟩ := x
  intro ok H locs ls hP hD hS hl
  exact lv_iand ok.1 ok.2.1 hd (by rw [hv]; exact k ok H locs ls hP hD hS hl)
theorem z_ior {a b : Int} (v : Int) (hv : Int32.ofInt a ||| Int32.ofInt b = Int32.ofInt v) (hd : decode M.2.2.1 pc = .ok (.ior, 1)) (k : zV l x g M n Q (pc + 1) L (zi v :: st) d) : zV l x g M n Q pc L (zi b :: zi a :: st) d := by
  obtain ⟨p, e, s, m, args, below, meth, c, A⟩ := x
  intro ok H locs ls hP hD hS hl
  exact lv_ior ok.1 ok.2.1 hd (by rw [hv]; exact k ok H locs ls hP hD hS hl)
theorem z_ixor {a b : Int} (v : Int) (hv : Int32.ofInt a ^^^ Int32.ofInt b = Int32.ofInt v) (hd : decode M.2.2.1 pc = .ok (.ixor, 1)) (k : zV l x g M n Q (pc + 1) L (zi v :: st) d) : zV l x g M n Q pc L (zi b :: zi a :: st) d := by
  obtain ⟨p, e, s, m, args, below, meth, c, A⟩ := x
  intro ok H locs ls hP hD hS hl
  exact lv_ixor ok.1 ok.2.1 hd (by rw [hv]; exact k ok H locs ls hP hD hS hl)
theorem z_ishl {a b : Int} (v : Int) (hv : Int32.ofInt a <<< (Int32.ofInt b &&& 31) = Int32.ofInt v) (hd : decode M.2.2.1 pc = .ok (.ishl, 1)) (k : zV l x g M n Q (pc + 1) L (zi v :: st) d) : zV l x g M n Q pc L (zi b :: zi a :: st) d := by
  obtain ⟨p, e, s, m, args, below, meth, c, A⟩ := x
  intro ok H locs ls hP hD hS hl
  exact lv_ishl ok.1 ok.2.1 hd (by rw [hv]; exact k ok H locs ls hP hD hS hl)
theorem z_ishr {a b : Int} (v : Int) (hv : Int32.ofInt a >>> (Int32.ofInt b &&& 31) = Int32.ofInt v) (hd : decode M.2.2.1 pc = .ok (.ishr, 1)) (k : zV l x g M n Q (pc + 1) L (zi v :: st) d) : zV l x g M n Q pc L (zi b :: zi a :: st) d := by
  obtain ⟨p, e, s, m, args, below, meth, c, A⟩ := x
  intro ok H locs ls hP hD hS hl
  exact lv_ishr ok.1 ok.2.1 hd (by rw [hv]; exact k ok H locs ls hP hD hS hl)
theorem z_iushr {a b : Int} (v : Int) (hv : ((Int32.ofInt a).toUInt32 >>> ((Int32.ofInt b).toUInt32 &&& Int32.toUInt32 31)).toInt32 = Int32.ofInt v) (hd : decode M.2.2.1 pc = .ok (.iushr, 1)) (k : zV l x g M n Q (pc + 1) L (zi v :: st) d) : zV l x g M n Q pc L (zi b :: zi a :: st) d := by
  obtain ⟨p, e, s, m, args, below, meth, c, A⟩ := x
  intro ok H locs ls hP hD hS hl
  exact lv_iushr ok.1 ok.2.1 hd hv (k ok H locs ls hP hD hS hl)
theorem z_idiv {a b : Int} (v : Int) (hb : ¬ Int32.ofInt b = 0) (hv : Int32.ofInt a / Int32.ofInt b = Int32.ofInt v) (hd : decode M.2.2.1 pc = .ok (.idiv, 1)) (k : zV l x g M n Q (pc + 1) L (zi v :: st) d) : zV l x g M n Q pc L (zi b :: zi a :: st) d := by
  obtain ⟨p, e, s, m, args, below, meth, c, A⟩ := x
  intro ok H locs ls hP hD hS hl
  exact lv_idiv ok.1 ok.2.1 hd hb (by rw [hv]; exact k ok H locs ls hP hD hS hl)
theorem z_irem {a b : Int} (v : Int) (hb : ¬ Int32.ofInt b = 0) (hv : Int32.ofInt a - Int32.ofInt a / Int32.ofInt b * Int32.ofInt b = Int32.ofInt v) (hd : decode M.2.2.1 pc = .ok (.irem, 1)) (k : zV l x g M n Q (pc + 1) L (zi v :: st) d) : zV l x g M n Q pc L (zi b :: zi a :: st) d := by
  obtain ⟨p, e, s, m, args, below, meth, c, A⟩ := x
  intro ok H locs ls hP hD hS hl
  exact lv_irem ok.1 ok.2.1 hd hb (by rw [hv]; exact k ok H locs ls hP hD hS hl)
theorem z_dup {v : Value} (hd : decode M.2.2.1 pc = .ok (.dup, 1)) (hv : v.category = 1) (k : zV l x g M n Q (pc + 1) L (v :: v :: st) d) : zV l x g M n Q pc L (v :: st) d := by
  obtain ⟨p, e, s, m, args, below, meth, c, A⟩ := x
  intro ok H locs ls hP hD hS hl
  exact lv_dup ok.1 ok.2.1 hd hv (k ok H locs ls hP hD hS hl)
theorem z_dup2 {v w : Value} (hd : decode M.2.2.1 pc = .ok (.dup2, 1)) (hv : v.category = 1) (hw : w.category = 1) (k : zV l x g M n Q (pc + 1) L (v :: w :: v :: w :: st) d) : zV l x g M n Q pc L (v :: w :: st) d := by
  obtain ⟨p, e, s, m, args, below, meth, c, A⟩ := x
  intro ok H locs ls hP hD hS hl
  exact lv_dup2_11 ok.1 ok.2.1 hd hv hw (k ok H locs ls hP hD hS hl)
theorem z_pop {v : Value} (hd : decode M.2.2.1 pc = .ok (.pop, 1)) (hv : v.category = 1) (k : zV l x g M n Q (pc + 1) L (st) d) : zV l x g M n Q pc L (v :: st) d := by
  obtain ⟨p, e, s, m, args, below, meth, c, A⟩ := x
  intro ok H locs ls hP hD hS hl
  exact lv_pop ok.1 ok.2.1 hd hv (k ok H locs ls hP hD hS hl)
theorem z_pop2 {v : Value} (hd : decode M.2.2.1 pc = .ok (.pop2, 1)) (hv : v.category = 2) (k : zV l x g M n Q (pc + 1) L (st) d) : zV l x g M n Q pc L (v :: st) d := by
  obtain ⟨p, e, s, m, args, below, meth, c, A⟩ := x
  intro ok H locs ls hP hD hS hl
  exact lv_pop2_2 ok.1 ok.2.1 hd hv (k ok H locs ls hP hD hS hl)
theorem z_goto {off : Int} (t : Nat) (hd : decode M.2.2.1 pc = .ok (.goto off, 3)) (ht : (pc : Int) + off = (t : Int)) (k : zV l x g M n Q t L st d) : zV l x g M n Q pc L st d := by
  obtain ⟨p, e, s, m, args, below, meth, c, A⟩ := x
  intro ok H locs ls hP hD hS hl
  exact lv_goto ok.1 ok.2.1 hd ht (k ok H locs ls hP hD hS hl)
theorem z_icmp_eq {a b : Int} {off : Int} (t : Nat) (ha : zin a) (hb : zin b) (hd : decode M.2.2.1 pc = .ok (.if_icmp .eq off, 3)) (ht : (pc : Int) + off = (t : Int)) (kt : a = b → zV l x g M n Q t L st d) (kf : a ≠ b → zV l x g M n Q (pc + 3) L st d) : zV l x g M n Q pc L (zi b :: zi a :: st) d := by
  obtain ⟨p, e, s, m, args, below, meth, c, A⟩ := x
  intro ok H locs ls hP hD hS hl
  exact lv_icmp_eq ok.1 ok.2.1 hd ht (fun hc => kt ((zeq ha hb).mp hc) ok H locs ls hP hD hS hl) (fun hc => kf (fun z => hc ((zeq ha hb).mpr z)) ok H locs ls hP hD hS hl)
theorem z_if_eq {a : Int} {off : Int} (t : Nat) (ha : zin a) (hd : decode M.2.2.1 pc = .ok (.ifCond .eq off, 3)) (ht : (pc : Int) + off = (t : Int)) (kt : a = 0 → zV l x g M n Q t L st d) (kf : a ≠ 0 → zV l x g M n Q (pc + 3) L st d) : zV l x g M n Q pc L (zi a :: st) d := by
  obtain ⟨p, e, s, m, args, below, meth, c, A⟩ := x
  intro ok H locs ls hP hD hS hl
  exact lv_if_eq ok.1 ok.2.1 hd ht (fun hc => kt ((zeq ha zin0).mp hc) ok H locs ls hP hD hS hl) (fun hc => kf (fun z => hc ((zeq ha zin0).mpr z)) ok H locs ls hP hD hS hl)
theorem z_icmp_ne {a b : Int} {off : Int} (t : Nat) (ha : zin a) (hb : zin b) (hd : decode M.2.2.1 pc = .ok (.if_icmp .ne off, 3)) (ht : (pc : Int) + off = (t : Int)) (kt : a ≠ b → zV l x g M n Q t L st d) (kf : a = b → zV l x g M n Q (pc + 3) L st d) : zV l x g M n Q pc L (zi b :: zi a :: st) d := by
  obtain ⟨p, e, s, m, args, below, meth, c, A⟩ := x
  intro ok H locs ls hP hD hS hl
  exact lv_icmp_ne ok.1 ok.2.1 hd ht (fun hc => kt (fun z => hc ((zeq ha hb).mpr z)) ok H locs ls hP hD hS hl) (fun hc => kf ((zeq ha hb).mp hc) ok H locs ls hP hD hS hl)
theorem z_if_ne {a : Int} {off : Int} (t : Nat) (ha : zin a) (hd : decode M.2.2.1 pc = .ok (.ifCond .ne off, 3)) (ht : (pc : Int) + off = (t : Int)) (kt : a ≠ 0 → zV l x g M n Q t L st d) (kf : a = 0 → zV l x g M n Q (pc + 3) L st d) : zV l x g M n Q pc L (zi a :: st) d := by
  obtain ⟨p, e, s, m, args, below, meth, c, A⟩ := x
  intro ok H locs ls hP hD hS hl
  exact lv_if_ne ok.1 ok.2.1 hd ht (fun hc => kt (fun z => hc ((zeq ha zin0).mpr z)) ok H locs ls hP hD hS hl) (fun hc => kf ((zeq ha zin0).mp hc) ok H locs ls hP hD hS hl)
theorem z_icmp_lt {a b : Int} {off : Int} (t : Nat) (ha : zin a) (hb : zin b) (hd : decode M.2.2.1 pc = .ok (.if_icmp .lt off, 3)) (ht : (pc : Int) + off = (t : Int)) (kt : a < b → zV l x g M n Q t L st d) (kf : b ≤ a → zV l x g M n Q (pc + 3) L st d) : zV l x g M n Q pc L (zi b :: zi a :: st) d := by
  obtain ⟨p, e, s, m, args, below, meth, c, A⟩ := x
  intro ok H locs ls hP hD hS hl
  exact lv_icmp_lt ok.1 ok.2.1 hd ht (fun hc => kt ((zlt ha hb).mp hc) ok H locs ls hP hD hS hl) (fun hc => kf (Int.not_lt.mp (fun z => hc ((zlt ha hb).mpr z))) ok H locs ls hP hD hS hl)
theorem z_if_lt {a : Int} {off : Int} (t : Nat) (ha : zin a) (hd : decode M.2.2.1 pc = .ok (.ifCond .lt off, 3)) (ht : (pc : Int) + off = (t : Int)) (kt : a < 0 → zV l x g M n Q t L st d) (kf : 0 ≤ a → zV l x g M n Q (pc + 3) L st d) : zV l x g M n Q pc L (zi a :: st) d := by
  obtain ⟨p, e, s, m, args, below, meth, c, A⟩ := x
  intro ok H locs ls hP hD hS hl
  exact lv_if_lt ok.1 ok.2.1 hd ht (fun hc => kt ((zlt ha zin0).mp hc) ok H locs ls hP hD hS hl) (fun hc => kf (Int.not_lt.mp (fun z => hc ((zlt ha zin0).mpr z))) ok H locs ls hP hD hS hl)
theorem z_icmp_ge {a b : Int} {off : Int} (t : Nat) (ha : zin a) (hb : zin b) (hd : decode M.2.2.1 pc = .ok (.if_icmp .ge off, 3)) (ht : (pc : Int) + off = (t : Int)) (kt : b ≤ a → zV l x g M n Q t L st d) (kf : a < b → zV l x g M n Q (pc + 3) L st d) : zV l x g M n Q pc L (zi b :: zi a :: st) d := by
  obtain ⟨p, e, s, m, args, below, meth, c, A⟩ := x
  intro ok H locs ls hP hD hS hl
  exact lv_icmp_ge ok.1 ok.2.1 hd ht (fun hc => kt ((zle hb ha).mp hc) ok H locs ls hP hD hS hl) (fun hc => kf (Int.not_le.mp (fun z => hc ((zle hb ha).mpr z))) ok H locs ls hP hD hS hl)
theorem z_if_ge {a : Int} {off : Int} (t : Nat) (ha : zin a) (hd : decode M.2.2.1 pc = .ok (.ifCond .ge off, 3)) (ht : (pc : Int) + off = (t : Int)) (kt : 0 ≤ a → zV l x g M n Q t L st d) (kf : a < 0 → zV l x g M n Q (pc + 3) L st d) : zV l x g M n Q pc L (zi a :: st) d := by
  obtain ⟨p, e, s, m, args, below, meth, c, A⟩ := x
  intro ok H locs ls hP hD hS hl
  exact lv_if_ge ok.1 ok.2.1 hd ht (fun hc => kt ((zle zin0 ha).mp hc) ok H locs ls hP hD hS hl) (fun hc => kf (Int.not_le.mp (fun z => hc ((zle zin0 ha).mpr z))) ok H locs ls hP hD hS hl)
theorem z_icmp_gt {a b : Int} {off : Int} (t : Nat) (ha : zin a) (hb : zin b) (hd : decode M.2.2.1 pc = .ok (.if_icmp .gt off, 3)) (ht : (pc : Int) + off = (t : Int)) (kt : b < a → zV l x g M n Q t L st d) (kf : a ≤ b → zV l x g M n Q (pc + 3) L st d) : zV l x g M n Q pc L (zi b :: zi a :: st) d := by
  obtain ⟨p, e, s, m, args, below, meth, c, A⟩ := x
  intro ok H locs ls hP hD hS hl
  exact lv_icmp_gt ok.1 ok.2.1 hd ht (fun hc => kt ((zlt hb ha).mp hc) ok H locs ls hP hD hS hl) (fun hc => kf (Int.not_lt.mp (fun z => hc ((zlt hb ha).mpr z))) ok H locs ls hP hD hS hl)
theorem z_if_gt {a : Int} {off : Int} (t : Nat) (ha : zin a) (hd : decode M.2.2.1 pc = .ok (.ifCond .gt off, 3)) (ht : (pc : Int) + off = (t : Int)) (kt : 0 < a → zV l x g M n Q t L st d) (kf : a ≤ 0 → zV l x g M n Q (pc + 3) L st d) : zV l x g M n Q pc L (zi a :: st) d := by
  obtain ⟨p, e, s, m, args, below, meth, c, A⟩ := x
  intro ok H locs ls hP hD hS hl
  exact lv_if_gt ok.1 ok.2.1 hd ht (fun hc => kt ((zlt zin0 ha).mp hc) ok H locs ls hP hD hS hl) (fun hc => kf (Int.not_lt.mp (fun z => hc ((zlt zin0 ha).mpr z))) ok H locs ls hP hD hS hl)
theorem z_icmp_le {a b : Int} {off : Int} (t : Nat) (ha : zin a) (hb : zin b) (hd : decode M.2.2.1 pc = .ok (.if_icmp .le off, 3)) (ht : (pc : Int) + off = (t : Int)) (kt : a ≤ b → zV l x g M n Q t L st d) (kf : b < a → zV l x g M n Q (pc + 3) L st d) : zV l x g M n Q pc L (zi b :: zi a :: st) d := by
  obtain ⟨p, e, s, m, args, below, meth, c, A⟩ := x
  intro ok H locs ls hP hD hS hl
  exact lv_icmp_le ok.1 ok.2.1 hd ht (fun hc => kt ((zle ha hb).mp hc) ok H locs ls hP hD hS hl) (fun hc => kf (Int.not_le.mp (fun z => hc ((zle ha hb).mpr z))) ok H locs ls hP hD hS hl)
theorem z_if_le {a : Int} {off : Int} (t : Nat) (ha : zin a) (hd : decode M.2.2.1 pc = .ok (.ifCond .le off, 3)) (ht : (pc : Int) + off = (t : Int)) (kt : a ≤ 0 → zV l x g M n Q t L st d) (kf : 0 < a → zV l x g M n Q (pc + 3) L st d) : zV l x g M n Q pc L (zi a :: st) d := by
  obtain ⟨p, e, s, m, args, below, meth, c, A⟩ := x
  intro ok H locs ls hP hD hS hl
  exact lv_if_le ok.1 ok.2.1 hd ht (fun hc => kt ((zle ha zin0).mp hc) ok H locs ls hP hD hS hl) (fun hc => kf (Int.not_le.mp (fun z => hc ((zle ha zin0).mpr z))) ok H locs ls hP hD hS hl)
def zb (b : Bool) : Int := if b then 1 else 0
theorem zb_in (b : Bool) : zin (zb b) := by cases b <;> decide
theorem z_if_eq_b {b : Bool} {off : Int} (t : Nat) (hd : decode M.2.2.1 pc = .ok (.ifCond .eq off, 3)) (ht : (pc : Int) + off = (t : Int)) (kt : b = false → zV l x g M n Q t L st d) (kf : b = true → zV l x g M n Q (pc + 3) L st d) : zV l x g M n Q pc L (zi (zb b) :: st) d :=
  z_if_eq t (zb_in b) hd ht (fun h => kt (by cases b <;> simp_all [zb])) (fun h => kf (by cases b <;> simp_all [zb]))
theorem z_if_ne_b {b : Bool} {off : Int} (t : Nat) (hd : decode M.2.2.1 pc = .ok (.ifCond .ne off, 3)) (ht : (pc : Int) + off = (t : Int)) (kt : b = true → zV l x g M n Q t L st d) (kf : b = false → zV l x g M n Q (pc + 3) L st d) : zV l x g M n Q pc L (zi (zb b) :: st) d :=
  z_if_ne t (zb_in b) hd ht (fun h => kt (by cases b <;> simp_all [zb])) (fun h => kf (by cases b <;> simp_all [zb]))
def zfl (own : String) (idx ci k : Nat) : Prop := ∃ (C : String) (T : u_T) (N : Nat), vwCl[ci]? = some (C, T, N) ∧ k < N ∧ (∀ w ∈ u_ws C T N, w ∈ zTB) ∧
  (Cond.fieldLink own idx (T k).1 (T k).2.1 (T k).2.2.1 ∈ zTB ∨ ∃ host : String, Cond.fieldLinkNest own idx (T k).1 (T k).2.1 (T k).2.2.1 host ∈ zNW)
def zfp (own : String) (idx ci k : Nat) (ty : FieldType) : Prop := ∃ (C : String) (T : u_T) (N : Nat) (ty0 : Nat → FieldType), vwCl[ci]? = some (C, T, N) ∧ k < N ∧ (∀ w ∈ u_ws C T N, w ∈ zTB) ∧
  (Cond.fieldLink own idx (T k).1 (T k).2.1 (T k).2.2.1 ∈ zTB ∨ ∃ host : String, Cond.fieldLinkNest own idx (T k).1 (T k).2.1 (T k).2.2.1 host ∈ zNW) ∧
  (∀ k, k < N → parseFieldDescriptor (T k).2.2.1 = some (ty0 k)) ∧ (∀ a, a < N → ∀ b, b < N → a ≠ b → (T a).2.1 ≠ (T b).2.1) ∧ (T k).2.2.2 = false ∧ parseFieldDescriptor (T k).2.2.1 = some ty
theorem zget {ci k q : Nat} {v : Value} {vs : List Value} {idx : Nat} (hf : zfl M.1 idx ci k) (hq : (zw g d)[q]? = some (g.2.2.1 q, .inr (ci, vs))) (hv : vs[k]? = some v) (hd : decode M.2.2.1 pc = .ok (.getfield idx, 3)) (kk : zV l x g M n Q (pc + 3) L (v :: st) d) : zV l x g M n Q pc L (zr g q :: st) d := by
  obtain ⟨p, e, s, m, args, below, meth, c, A⟩ := x
  intro ok H locs ls hP hD hS hl
  have kk' := kk ok H locs ls hP hD hS hl
  obtain ⟨hx, hb, hml, hown, hts, hr, hK, hA, hlk, hao, ham⟩ := ok
  obtain ⟨C, T, N, hc, hk, hin, hlink⟩ := hf
  rcases hlink with hlink | ⟨host, hlink⟩
  · exact va_get hx hb hts hin hown hK hP q hq hc k hk (hts _ hlink) (fun _ h => h) hv hd kk'
  · exact va_getN (host := host) hx hb hts hin hown hK hP q hq hc k hk (va_Nw.use (by rfl) (hao.2.2.2.2 _ _ _ ham _ hlink)) (fun _ h => h) hv hd kk'
theorem z_geti {ci k q : Nat} {fs : List (Option Nat)} {idx : Nat} (hf : zfl M.1 idx ci k) (hq : q < zN) (hsh : zsh q = .inl (ci, fs)) (hk : fs[k]? = some none) (hd : decode M.2.2.1 pc = .ok (.getfield idx, 3)) (kk : zV l x g M n Q (pc + 3) L (zi (d q k) :: st) d) : zV l x g M n Q pc L (zr g q :: st) d := by
  refine zget hf (by rw [zw_at g d hq, zcell_o g d hsh]) ?_ hd kk
  have := zfv_get_n g (d q) fs 0 k hk
  rwa [Nat.zero_add] at this
theorem z_getr {ci k q t : Nat} {fs : List (Option Nat)} {idx : Nat} (hf : zfl M.1 idx ci k) (hq : q < zN) (hsh : zsh q = .inl (ci, fs)) (hk : fs[k]? = some (some t)) (hd : decode M.2.2.1 pc = .ok (.getfield idx, 3)) (kk : zV l x g M n Q (pc + 3) L (zr g t :: st) d) : zV l x g M n Q pc L (zr g q :: st) d :=
  zget hf (by rw [zw_at g d hq, zcell_o g d hsh]) (zfv_get_s g (d q) fs 0 k hk) hd kk
theorem z_putg {ci k q : Nat} {fs : List (Option Nat)} {idx : Nat} {ty : FieldType} {v : Int} (hf : zfp M.1 idx ci k ty) (hq : q < zN) (hsh : zsh q = .inl (ci, fs)) (hk : fs[k]? = some none) (hn : narrow ty (zi v) = zi v) (hfit : fits ty (zi v) = true) (hd : decode M.2.2.1 pc = .ok (.putfield idx, 3)) (kk : zV l x g M n Q (pc + 3) L st (zu d q k v)) : zV l x g M n Q pc L (zi v :: zr g q :: st) d := by
  obtain ⟨p, e, s, m, args, below, meth, c, A⟩ := x
  intro ok H locs ls hP hD hS hl
  have ok' := ok
  obtain ⟨hx, hb, hml, hown, hts, hr, hK, hA, hlk, hao, ham⟩ := ok
  obtain ⟨C, T, N, ty0, hc, hkN, hin, hlink, hty, hnm, hfin, hpd⟩ := hf
  have hat : (zw g d)[q]? = some (g.2.2.1 q, .inr (ci, zfv g (d q) 0 fs)) := by rw [zw_at g d hq, zcell_o g d hsh]
  have hset : (zw g d).set q (g.2.2.1 q, .inr (ci, (zfv g (d q) 0 fs).set k (zi v))) = zw g (zu d q k v) := by
    refine zw_set g hq (fun j hj => zu_ne hj) ?_
    rw [zcell_o g _ hsh, zfv_set g fs 0 k hk (r' := zu d q k v q) (v := v) (fun j hj => by rw [zu_row]; rw [if_neg (by omega)]) (by rw [Nat.zero_add]; exact zu_at d q k v)]
  have hlen : k < (zfv g (d q) 0 fs).length := by rw [zfv_len]; exact (List.getElem?_eq_some_iff.mp hk).1
  rcases hlink with hlink | ⟨host, hlink⟩
  · exact va_put hx hb hts hin ty0 hty hnm hown hK hP hD hS q hat hc k hkN (hts _ hlink) (fun _ h => h) hfin hpd hn hfit hlen hd (fun H1 locs1 hP1 hD1 hS1 => by rw [hset] at hP1 hD1; exact kk ok' H1 locs1 ls hP1 hD1 hS1 hl)
  · exact va_putN (host := host) hx hb hts hin ty0 hty hnm hown hK hP hD hS q hat hc k hkN (va_Nw.use (by rfl) (hao.2.2.2.2 _ _ _ ham _ hlink)) (fun _ h => h) hfin hpd hn hfit hlen hd (fun H1 locs1 hP1 hD1 hS1 => by rw [hset] at hP1 hD1; exact kk ok' H1 locs1 ls hP1 hD1 hS1 hl)
theorem z_puti {ci k q : Nat} {fs : List (Option Nat)} {idx : Nat} {v : Int} (hf : zfp M.1 idx ci k .int) (hq : q < zN) (hsh : zsh q = .inl (ci, fs)) (hk : fs[k]? = some none) (hd : decode M.2.2.1 pc = .ok (.putfield idx, 3)) (kk : zV l x g M n Q (pc + 3) L st (zu d q k v)) : zV l x g M n Q pc L (zi v :: zr g q :: st) d :=
  z_putg hf hq hsh hk rfl rfl hd kk
theorem z_putb {ci k q : Nat} {fs : List (Option Nat)} {idx : Nat} {b : Bool} (hf : zfp M.1 idx ci k .boolean) (hq : q < zN) (hsh : zsh q = .inl (ci, fs)) (hk : fs[k]? = some none) (hd : decode M.2.2.1 pc = .ok (.putfield idx, 3)) (kk : zV l x g M n Q (pc + 3) L st (zu d q k (zb b))) : zV l x g M n Q pc L (zi (zb b) :: zr g q :: st) d :=
  z_putg hf hq hsh hk (by cases b <;> decide +kernel) (by cases b <;> decide +kernel) hd kk
theorem z_iald {q sz : Nat} {a : Int} (j : Nat) (hq : q < zN) (hsh : zsh q = .inr (0, sz)) (ha : a = (j : Int)) (hj : j < sz) (hsz : sz < 2147483648) (hd : decode M.2.2.1 pc = .ok (.iaload, 1)) (kk : zV l x g M n Q (pc + 1) L (zi (d q j) :: st) d) : zV l x g M n Q pc L (zi a :: zr g q :: st) d := by
  obtain ⟨p, e, s, m, args, below, meth, c, A⟩ := x
  intro ok H locs ls hP hD hS hl
  subst ha
  have kk' := kk ok H locs ls hP hD hS hl
  have hat : (zw g d)[q]? = some (g.2.2.1 q, .inl (g.2.2.2.1 0, sz, .inl (fun i => Int32.ofInt (d q i)))) := by rw [zw_at g d hq, zcell_a g d hsh (by decide)]
  refine va_iald ok.1 ok.2.1 ok.2.2.2.2.2.2.1 hP q 0 hat rfl (zvin hj hsz) hd ?_
  rw [zclamp (by omega)]
  exact kk'
theorem z_bald {q sz : Nat} {a : Int} (j : Nat) (hq : q < zN) (hsh : zsh q = .inr (1, sz)) (ha : a = (j : Int)) (hj : j < sz) (hsz : sz < 2147483648) (hd : decode M.2.2.1 pc = .ok (.baload, 1)) (kk : zV l x g M n Q (pc + 1) L (zi (d q j) :: st) d) : zV l x g M n Q pc L (zi a :: zr g q :: st) d := by
  obtain ⟨p, e, s, m, args, below, meth, c, A⟩ := x
  intro ok H locs ls hP hD hS hl
  subst ha
  have kk' := kk ok H locs ls hP hD hS hl
  have hat : (zw g d)[q]? = some (g.2.2.1 q, .inl (g.2.2.2.1 1, sz, .inl (fun i => Int32.ofInt (d q i)))) := by rw [zw_at g d hq, zcell_a g d hsh (by decide)]
  refine va_zald ok.1 ok.2.1 ok.2.2.2.2.2.2.1 hP q 1 hat rfl (zvin hj hsz) hd ?_
  rw [zclamp (by omega)]
  exact kk'
theorem z_iast {q sz : Nat} {a v : Int} (j : Nat) (hq : q < zN) (hsh : zsh q = .inr (0, sz)) (ha : a = (j : Int)) (hj : j < sz) (hsz : sz < 2147483648) (hd : decode M.2.2.1 pc = .ok (.iastore, 1)) (kk : zV l x g M n Q (pc + 1) L st (zu d q j v)) : zV l x g M n Q pc L (zi v :: zi a :: zr g q :: st) d := by
  obtain ⟨p, e, s, m, args, below, meth, c, A⟩ := x
  intro ok H locs ls hP hD hS hl
  subst ha
  have hat : (zw g d)[q]? = some (g.2.2.1 q, .inl (g.2.2.2.1 0, sz, .inl (fun i => Int32.ofInt (d q i)))) := by rw [zw_at g d hq, zcell_a g d hsh (by decide)]
  have hset : (zw g d).set q (g.2.2.1 q, .inl (g.2.2.2.1 0, sz, .inl (upd (fun i => Int32.ofInt (d q i)) (Int32.ofInt (j : Int)).toNatClampNeg (Int32.ofInt v)))) = zw g (zu d q j v) := by
    refine zw_set g hq (fun i hi => zu_ne hi) ?_
    rw [zcell_a g _ hsh (by decide), zclamp (by omega)]
    congr 4
    funext i
    by_cases hi : i = j
    · subst hi; rw [pk_us, zu_at]
    · rw [pk_un hi, zu_row, if_neg hi]
  exact va_iast ok.1 ok.2.1 ok.2.2.2.2.2.2.1 hP hD hS q 0 hat rfl (zvin hj hsz) hd (fun H1 locs1 hP1 hD1 hS1 => by rw [hset] at hP1 hD1; exact kk ok H1 locs1 ls hP1 hD1 hS1 hl)
theorem z_bast {q sz : Nat} {a : Int} {b : Bool} (j : Nat) (hq : q < zN) (hsh : zsh q = .inr (1, sz)) (ha : a = (j : Int)) (hj : j < sz) (hsz : sz < 2147483648) (hd : decode M.2.2.1 pc = .ok (.bastore, 1)) (kk : zV l x g M n Q (pc + 1) L st (zu d q j (zb b))) : zV l x g M n Q pc L (zi (zb b) :: zi a :: zr g q :: st) d := by
  obtain ⟨p, e, s, m, args, below, meth, c, A⟩ := x
  intro ok H locs ls hP hD hS hl
  subst ha
  have hat : (zw g d)[q]? = some (g.2.2.1 q, .inl (g.2.2.2.1 1, sz, .inl (fun i => Int32.ofInt (d q i)))) := by rw [zw_at g d hq, zcell_a g d hsh (by decide)]
  have hset : (zw g d).set q (g.2.2.1 q, .inl (g.2.2.2.1 1, sz, .inl (upd (fun i => Int32.ofInt (d q i)) (Int32.ofInt (j : Int)).toNatClampNeg (vp_nar .boolean (Int32.ofInt (zb b)))))) = zw g (zu d q j (zb b)) := by
    refine zw_set g hq (fun i hi => zu_ne hi) ?_
    rw [zcell_a g _ hsh (by decide), zclamp (by omega)]
    have hnb : vp_nar .boolean (Int32.ofInt (zb b)) = Int32.ofInt (zb b) := by cases b <;> decide +kernel
    rw [hnb]
    congr 4
    funext i
    by_cases hi : i = j
    · subst hi; rw [pk_us, zu_at]
    · rw [pk_un hi, zu_row, if_neg hi]
  exact va_zast ok.1 ok.2.1 ok.2.2.2.2.2.2.1 hP hD hS q 1 hat rfl (zvin hj hsz) hd (fun H1 locs1 hP1 hD1 hS1 => by rw [hset] at hP1 hD1; exact kk ok H1 locs1 ls hP1 hD1 hS1 hl)
theorem z_alen {q t sz : Nat} (hq : q < zN) (hsh : zsh q = .inr (t, sz)) (ht : t < 2) (hd : decode M.2.2.1 pc = .ok (.arraylength, 1)) (kk : zV l x g M n Q (pc + 1) L (zi (sz : Int) :: st) d) : zV l x g M n Q pc L (zr g q :: st) d := by
  obtain ⟨p, e, s, m, args, below, meth, c, A⟩ := x
  intro ok H locs ls hP hD hS hl
  have kk' := kk ok H locs ls hP hD hS hl
  have hat : (zw g d)[q]? = some (g.2.2.1 q, .inl (g.2.2.2.1 t, sz, .inl (fun i => Int32.ofInt (d q i)))) := by rw [zw_at g d hq, zcell_a g d hsh (by omega)]
  have ht' : ∃ ty, (zty g)[t]? = some (g.2.2.2.1 t, ty) := by
    rcases (show t = 0 ∨ t = 1 by omega) with rfl | rfl
    · exact ⟨_, rfl⟩
    · exact ⟨_, rfl⟩
  obtain ⟨ty, hty⟩ := ht'
  exact va_alen ok.1 ok.2.1 ok.2.2.2.2.2.2.1 hP q t hat hty (v := Int32.ofInt (sz : Int)) rfl hd kk'
/-- fewer locals -/
theorem z_sub {L' : List (Nat × Value)} (ks : List Nat) (hL : lv_pick L ks = L') (k : zV l x g M n Q pc L' st d) : zV l x g M n Q pc L st d := by
  obtain ⟨p, e, s, m, args, below, meth, c, A⟩ := x
  intro ok H locs ls hP hD hS hl
  exact k ok H locs ls hP hD hS (lv_sub hl ks hL)
theorem z_iret {v : Int} (hr : M.2.2.2.2 = some .int) (hd : decode M.2.2.1 pc = .ok (.ireturn, 1)) (hq : Q (some (zi v)) d) : zV l x g M n Q pc L [zi v] d := by
  obtain ⟨p, e, s, m, args, below, meth, c, A⟩ := x
  intro ok H locs ls hP hD hS hl
  obtain ⟨hx, hb, hml, hown, hts, hrt, hK, hA, hlk, hao, ham⟩ := ok
  exact W.iret (v := Int32.ofInt v) hx hb (hrt.trans hr) (fun t ht hW => ⟨⟨_, d, rfl, hq, by rw [ht]; exact hP, va_K.moved hW.alike hK, hD⟩, hS.F ht⟩) hS.2.2 hd hlk
theorem z_bret {b : Bool} (hr : M.2.2.2.2 = some .boolean) (hd : decode M.2.2.1 pc = .ok (.ireturn, 1)) (hq : Q (some (zi (zb b))) d) : zV l x g M n Q pc L [zi (zb b)] d := by
  obtain ⟨p, e, s, m, args, below, meth, c, A⟩ := x
  intro ok H locs ls hP hD hS hl
  obtain ⟨hx, hb, hml, hown, hts, hrt, hK, hA, hlk, hao, ham⟩ := ok
  exact W.zret (v := Int32.ofInt (zb b)) (ty := .boolean) hx hb (hrt.trans hr) (by cases b <;> decide +kernel) (fun t ht hW => ⟨⟨_, d, rfl, hq, by rw [ht]; exact hP, va_K.moved hW.alike hK, hD⟩, hS.F ht⟩) hS.2.2 hd hlk
theorem z_lret {v : Int} (hr : M.2.2.2.2 = some .long) (hd : decode M.2.2.1 pc = .ok (.lreturn, 1)) (hq : Q (some (zl v)) d) : zV l x g M n Q pc L [zl v] d := by
  obtain ⟨p, e, s, m, args, below, meth, c, A⟩ := x
  intro ok H locs ls hP hD hS hl
  obtain ⟨hx, hb, hml, hown, hts, hrt, hK, hA, hlk, hao, ham⟩ := ok
  exact W.lret (v := Int64.ofInt v) hx hb (hrt.trans hr) (fun t ht hW => ⟨⟨_, d, rfl, hq, by rw [ht]; exact hP, va_K.moved hW.alike hK, hD⟩, hS.F ht⟩) hS.2.2 hd hlk
theorem z_vret (hr : M.2.2.2.2 = none) (hd : decode M.2.2.1 pc = .ok (.return_, 1)) (hq : Q none d) : zV l x g M n Q pc L [] d := by
  obtain ⟨p, e, s, m, args, below, meth, c, A⟩ := x
  intro ok H locs ls hP hD hS hl
  obtain ⟨hx, hb, hml, hown, hts, hrt, hK, hA, hlk, hao, ham⟩ := ok
  exact W.vret hx hb (hrt.trans hr) (fun t ht hW => ⟨⟨_, d, rfl, hq, by rw [ht]; exact hP, va_K.moved hW.alike hK, hD⟩, hS.F ht⟩) hS.2.2 hd hlk
end ZR
