/-! the light logic over the class's own 37 places: takeTold is called before the reference is there; made by wip/whole/gen_small.py out of the parts before -/
def zwK (g : zG) (d : zD) : va_W := (List.range 37).map (fun p => (g.2.2.1 p, zcell g d p))
def zQcK (g : zG) (A : Nat → Prop) (Qp : Option Value → zD → Prop) : Array Value → State → Outcome → State → Prop := fun _ st o t =>
  (∃ (r : Option Value) (d' : zD), o = .returned r ∧ Qp r d' ∧ va_P (zgD g) vwCl (zwK g d') t.heap ∧ va_K (zgD g) vwCl (zty g) t ∧ va_D A (zwK g d')) ∧ va_F A st t
def zPcK (g : zG) (d : zD) (av : List Value) (sz : Nat) : Array Value → State → Prop :=
  va_Pc av (fun U => U.heap.size = sz ∧ va_P (zgD g) vwCl (zwK g d) U.heap ∧ va_K (zgD g) vwCl (zty g) U ∧ va_D (fun _ => True) (zwK g d) ∧ g.2.2.2.2 (va_A (zwK g d) sz) U U.heap)
def zCK (l : Launch) (g : zG) (M : zM) (n : Nat) (av : List Value) (d : zD) (Qp : Option Value → zD → Prop) : Prop :=
  ∀ sz : Nat, Met l M.2.1 (zws M) (zrm n) (zPcK g d av sz) (zQcK g (va_A (zwK g d) sz) Qp) 0 0 (va_A (zwK g d) sz)
def zVK (l : Launch) (x : zX) (g : zG) (M : zM) (n : Nat) (Qp : Option Value → zD → Prop) (pc : Nat) (L : List (Nat × Value)) (st : List Value) (d : zD) : Prop := match x with
  | (p, e, s, m, args, below, meth, c, A) => zOk (p, e, s, m, args, below, meth, c, A) g M → ∀ (H : Heap) (locs : List Loc) (ls : Array Slot),
    va_P (zgD g) vwCl (zwK g d) H → va_D A (zwK g d) → va_S A s.heap H locs → lv_has ls M.2.2.2.1 L →
    W p l e (zrm n) s m args below meth c H locs 0 0 (MQ below (zQcK g A Qp) args s 0 0 A) (F0 m pc ls st)
theorem zw_lenK (g : zG) (d : zD) : (zwK g d).length = 37 := by simp [zwK]
theorem zw_atK (g : zG) (d : zD) {p : Nat} (hp : p < 37) : (zwK g d)[p]? = some (g.2.2.1 p, zcell g d p) := by simp [zwK, hp]
theorem zw_setK (g : zG) {d d' : zD} {p : Nat} {e : va_E} (hp : p < 37) (h : ∀ q, q ≠ p → d' q = d q) (he : e = zcell g d' p) : (zwK g d).set p (g.2.2.1 p, e) = zwK g d' := by
  subst he
  apply List.ext_getElem?
  intro k
  by_cases hk : k = p
  · subst hk
    rw [List.getElem?_set_self (by rw [zw_lenK]; exact hp), zw_atK g d' hp]
  · rw [List.getElem?_set_ne (Ne.symm hk)]
    by_cases hl : k < 37
    · rw [zw_atK g d hl, zw_atK g d' hl, zcell_congr g (h k hk)]
    · rw [List.getElem?_eq_none (by rw [zw_lenK]; omega), List.getElem?_eq_none (by rw [zw_lenK]; omega)]
section
variable {l : Launch} {x : zX} {g : zG} {M : zM} {n : Nat} {Q : Option Value → zD → Prop} {pc : Nat} {L : List (Nat × Value)} {st : List Value} {d : zD}
theorem z_iconstK {a : Int} (hd : decode M.2.2.1 pc = .ok (.iconst a, 1)) (k : zVK l x g M n Q (pc + 1) L (zi a :: st) d) : zVK l x g M n Q pc L (st) d := by
  obtain ⟨p, e, s, m, args, below, meth, c, A⟩ := x
  intro ok H locs ls hP hD hS hl
  exact lv_iconst ok.1 ok.2.1 hd rfl (k ok H locs ls hP hD hS hl)
theorem z_bipushK {a : Int} (hd : decode M.2.2.1 pc = .ok (.bipush a, 2)) (ha : (Int8.ofInt a).toInt32 = Int32.ofInt a) (k : zVK l x g M n Q (pc + 2) L (zi a :: st) d) : zVK l x g M n Q pc L (st) d := by
  obtain ⟨p, e, s, m, args, below, meth, c, A⟩ := x
  intro ok H locs ls hP hD hS hl
  exact lv_bipush ok.1 ok.2.1 hd ha (k ok H locs ls hP hD hS hl)
theorem z_sipushK {a : Int} (hd : decode M.2.2.1 pc = .ok (.sipush a, 3)) (ha : (Int16.ofInt a).toInt32 = Int32.ofInt a) (k : zVK l x g M n Q (pc + 3) L (zi a :: st) d) : zVK l x g M n Q pc L (st) d := by
  obtain ⟨p, e, s, m, args, below, meth, c, A⟩ := x
  intro ok H locs ls hP hD hS hl
  exact lv_sipush ok.1 ok.2.1 hd ha (k ok H locs ls hP hD hS hl)
theorem z_iload_nK (j : Nat) {i : Nat} {kk : Fin 4} {a : Int} (hd : decode M.2.2.1 pc = .ok (.iload_n kk, 1)) (hi : (kk : Nat) = i) (hj : L[j]? = some (i, zi a)) (k : zVK l x g M n Q (pc + 1) L (zi a :: st) d) : zVK l x g M n Q pc L (st) d := by
  obtain ⟨p, e, s, m, args, below, meth, c, A⟩ := x
  intro ok H locs ls hP hD hS hl
  exact lv_iload_n ok.1 ok.2.1 hd hi (lv_at hl j hj) (k ok H locs ls hP hD hS hl)
theorem z_iloadK (j : Nat) {i : Nat} {a : Int} (hd : decode M.2.2.1 pc = .ok (.iload i, 2)) (hj : L[j]? = some (i, zi a)) (k : zVK l x g M n Q (pc + 2) L (zi a :: st) d) : zVK l x g M n Q pc L (st) d := by
  obtain ⟨p, e, s, m, args, below, meth, c, A⟩ := x
  intro ok H locs ls hP hD hS hl
  exact lv_iload ok.1 ok.2.1 hd (lv_at hl j hj) (k ok H locs ls hP hD hS hl)
theorem z_aload_nK (j : Nat) {i : Nat} {kk : Fin 4} {q : Nat} (hd : decode M.2.2.1 pc = .ok (.aload_n kk, 1)) (hi : (kk : Nat) = i) (hj : L[j]? = some (i, zr g q)) (k : zVK l x g M n Q (pc + 1) L (zr g q :: st) d) : zVK l x g M n Q pc L (st) d := by
  obtain ⟨p, e, s, m, args, below, meth, c, A⟩ := x
  intro ok H locs ls hP hD hS hl
  exact lv_aload_n ok.1 ok.2.1 hd hi (lv_at hl j hj) (k ok H locs ls hP hD hS hl)
theorem z_istore_nK {i : Nat} {kk : Fin 4} {a : Int} {L' : List (Nat × Value)} (hd : decode M.2.2.1 pc = .ok (.istore_n kk, 1)) (hi : (kk : Nat) = i) (hn : i < M.2.2.2.1) (hu : zup L = true) (hL : zset L i (zi a) = L') (k : zVK l x g M n Q (pc + 1) L' st d) : zVK l x g M n Q pc L (zi a :: st) d := by
  obtain ⟨p, e, s, m, args, below, meth, c, A⟩ := x
  intro ok H locs ls hP hD hS hl
  subst hL
  exact lv_istore_n ok.1 ok.2.1 hd hi hl hn rfl (fun ls' hl' => k ok H locs ls' hP hD hS (zset_has hu hl'))
theorem z_istoreK {i : Nat} {a : Int} {L' : List (Nat × Value)} (hd : decode M.2.2.1 pc = .ok (.istore i, 2)) (hn : i < M.2.2.2.1) (hu : zup L = true) (hL : zset L i (zi a) = L') (k : zVK l x g M n Q (pc + 2) L' st d) : zVK l x g M n Q pc L (zi a :: st) d := by
  obtain ⟨p, e, s, m, args, below, meth, c, A⟩ := x
  intro ok H locs ls hP hD hS hl
  subst hL
  exact lv_istore ok.1 ok.2.1 hd hl hn rfl (fun ls' hl' => k ok H locs ls' hP hD hS (zset_has hu hl'))
theorem z_iincK (j : Nat) {i : Nat} {a b : Int} {L' : List (Nat × Value)} (hd : decode M.2.2.1 pc = .ok (.iinc i b, 3)) (hn : i < M.2.2.2.1) (hu : zup L = true) (hj : L[j]? = some (i, zi a)) (hL : zset L i (zi (a + b)) = L') (k : zVK l x g M n Q (pc + 3) L' st d) : zVK l x g M n Q pc L st d := by
  obtain ⟨p, e, s, m, args, below, meth, c, A⟩ := x
  intro ok H locs ls hP hD hS hl
  subst hL
  exact lv_iinc ok.1 ok.2.1 hd hl hj (v := Int32.ofInt (a + b)) (Int32.ofInt_add a b).symm hn rfl (fun ls' hl' => k ok H locs ls' hP hD hS (zset_has hu hl'))
theorem z_iaddK {a b : Int} (hd : decode M.2.2.1 pc = .ok (.iadd, 1)) (k : zVK l x g M n Q (pc + 1) L (zi (a + b) :: st) d) : zVK l x g M n Q pc L (zi b :: zi a :: st) d := by
  obtain ⟨p, e, s, m, args, below, meth, c, A⟩ := x
  intro ok H locs ls hP hD hS hl
  exact lv_iadd ok.1 ok.2.1 hd (by rw [← Int32.ofInt_add]; exact k ok H locs ls hP hD hS hl)
theorem z_imulK {a b : Int} (hd : decode M.2.2.1 pc = .ok (.imul, 1)) (k : zVK l x g M n Q (pc + 1) L (zi (a * b) :: st) d) : zVK l x g M n Q pc L (zi b :: zi a :: st) d := by
  obtain ⟨p, e, s, m, args, below, meth, c, A⟩ := x
  intro ok H locs ls hP hD hS hl
  exact lv_imul ok.1 ok.2.1 hd (by rw [← Int32.ofInt_mul]; exact k ok H locs ls hP hD hS hl)
theorem z_iandK {a b : Int} (v : Int) (hv : Int32.ofInt a &&& Int32.ofInt b = Int32.ofInt v) (hd : decode M.2.2.1 pc = .ok (.iand, 1)) (k : zVK l x g M n Q (pc + 1) L (zi v :: st) d) : zVK l x g M n Q pc L (zi b :: zi a :: st) d := by
  obtain ⟨p, e, s, m, args, below, meth, c, A⟩ := x
  intro ok H locs ls hP hD hS hl
  exact lv_iand ok.1 ok.2.1 hd (by rw [hv]; exact k ok H locs ls hP hD hS hl)
theorem z_iorK {a b : Int} (v : Int) (hv : Int32.ofInt a ||| Int32.ofInt b = Int32.ofInt v) (hd : decode M.2.2.1 pc = .ok (.ior, 1)) (k : zVK l x g M n Q (pc + 1) L (zi v :: st) d) : zVK l x g M n Q pc L (zi b :: zi a :: st) d := by
  obtain ⟨p, e, s, m, args, below, meth, c, A⟩ := x
  intro ok H locs ls hP hD hS hl
  exact lv_ior ok.1 ok.2.1 hd (by rw [hv]; exact k ok H locs ls hP hD hS hl)
theorem z_ixorK {a b : Int} (v : Int) (hv : Int32.ofInt a ^^^ Int32.ofInt b = Int32.ofInt v) (hd : decode M.2.2.1 pc = .ok (.ixor, 1)) (k : zVK l x g M n Q (pc + 1) L (zi v :: st) d) : zVK l x g M n Q pc L (zi b :: zi a :: st) d := by
  obtain ⟨p, e, s, m, args, below, meth, c, A⟩ := x
  intro ok H locs ls hP hD hS hl
  exact lv_ixor ok.1 ok.2.1 hd (by rw [hv]; exact k ok H locs ls hP hD hS hl)
theorem z_ishlK {a b : Int} (v : Int) (hv : Int32.ofInt a <<< (Int32.ofInt b &&& 31) = Int32.ofInt v) (hd : decode M.2.2.1 pc = .ok (.ishl, 1)) (k : zVK l x g M n Q (pc + 1) L (zi v :: st) d) : zVK l x g M n Q pc L (zi b :: zi a :: st) d := by
  obtain ⟨p, e, s, m, args, below, meth, c, A⟩ := x
  intro ok H locs ls hP hD hS hl
  exact lv_ishl ok.1 ok.2.1 hd (by rw [hv]; exact k ok H locs ls hP hD hS hl)
theorem z_ishrK {a b : Int} (v : Int) (hv : Int32.ofInt a >>> (Int32.ofInt b &&& 31) = Int32.ofInt v) (hd : decode M.2.2.1 pc = .ok (.ishr, 1)) (k : zVK l x g M n Q (pc + 1) L (zi v :: st) d) : zVK l x g M n Q pc L (zi b :: zi a :: st) d := by
  obtain ⟨p, e, s, m, args, below, meth, c, A⟩ := x
  intro ok H locs ls hP hD hS hl
  exact lv_ishr ok.1 ok.2.1 hd (by rw [hv]; exact k ok H locs ls hP hD hS hl)
theorem z_idivK {a b : Int} (v : Int) (hb : ¬ Int32.ofInt b = 0) (hv : Int32.ofInt a / Int32.ofInt b = Int32.ofInt v) (hd : decode M.2.2.1 pc = .ok (.idiv, 1)) (k : zVK l x g M n Q (pc + 1) L (zi v :: st) d) : zVK l x g M n Q pc L (zi b :: zi a :: st) d := by
  obtain ⟨p, e, s, m, args, below, meth, c, A⟩ := x
  intro ok H locs ls hP hD hS hl
  exact lv_idiv ok.1 ok.2.1 hd hb (by rw [hv]; exact k ok H locs ls hP hD hS hl)
theorem z_iremK {a b : Int} (v : Int) (hb : ¬ Int32.ofInt b = 0) (hv : Int32.ofInt a - Int32.ofInt a / Int32.ofInt b * Int32.ofInt b = Int32.ofInt v) (hd : decode M.2.2.1 pc = .ok (.irem, 1)) (k : zVK l x g M n Q (pc + 1) L (zi v :: st) d) : zVK l x g M n Q pc L (zi b :: zi a :: st) d := by
  obtain ⟨p, e, s, m, args, below, meth, c, A⟩ := x
  intro ok H locs ls hP hD hS hl
  exact lv_irem ok.1 ok.2.1 hd hb (by rw [hv]; exact k ok H locs ls hP hD hS hl)
theorem z_dupK {v : Value} (hd : decode M.2.2.1 pc = .ok (.dup, 1)) (hv : v.category = 1) (k : zVK l x g M n Q (pc + 1) L (v :: v :: st) d) : zVK l x g M n Q pc L (v :: st) d := by
  obtain ⟨p, e, s, m, args, below, meth, c, A⟩ := x
  intro ok H locs ls hP hD hS hl
  exact lv_dup ok.1 ok.2.1 hd hv (k ok H locs ls hP hD hS hl)
theorem z_dup2K {v w : Value} (hd : decode M.2.2.1 pc = .ok (.dup2, 1)) (hv : v.category = 1) (hw : w.category = 1) (k : zVK l x g M n Q (pc + 1) L (v :: w :: v :: w :: st) d) : zVK l x g M n Q pc L (v :: w :: st) d := by
  obtain ⟨p, e, s, m, args, below, meth, c, A⟩ := x
  intro ok H locs ls hP hD hS hl
  exact lv_dup2_11 ok.1 ok.2.1 hd hv hw (k ok H locs ls hP hD hS hl)
theorem z_gotoK {off : Int} (t : Nat) (hd : decode M.2.2.1 pc = .ok (.goto off, 3)) (ht : (pc : Int) + off = (t : Int)) (k : zVK l x g M n Q t L st d) : zVK l x g M n Q pc L st d := by
  obtain ⟨p, e, s, m, args, below, meth, c, A⟩ := x
  intro ok H locs ls hP hD hS hl
  exact lv_goto ok.1 ok.2.1 hd ht (k ok H locs ls hP hD hS hl)
theorem z_if_eqK {a : Int} {off : Int} (t : Nat) (ha : zin a) (hd : decode M.2.2.1 pc = .ok (.ifCond .eq off, 3)) (ht : (pc : Int) + off = (t : Int)) (kt : a = 0 → zVK l x g M n Q t L st d) (kf : a ≠ 0 → zVK l x g M n Q (pc + 3) L st d) : zVK l x g M n Q pc L (zi a :: st) d := by
  obtain ⟨p, e, s, m, args, below, meth, c, A⟩ := x
  intro ok H locs ls hP hD hS hl
  exact lv_if_eq ok.1 ok.2.1 hd ht (fun hc => kt ((zeq ha zin0).mp hc) ok H locs ls hP hD hS hl) (fun hc => kf (fun z => hc ((zeq ha zin0).mpr z)) ok H locs ls hP hD hS hl)
theorem z_icmp_neK {a b : Int} {off : Int} (t : Nat) (ha : zin a) (hb : zin b) (hd : decode M.2.2.1 pc = .ok (.if_icmp .ne off, 3)) (ht : (pc : Int) + off = (t : Int)) (kt : a ≠ b → zVK l x g M n Q t L st d) (kf : a = b → zVK l x g M n Q (pc + 3) L st d) : zVK l x g M n Q pc L (zi b :: zi a :: st) d := by
  obtain ⟨p, e, s, m, args, below, meth, c, A⟩ := x
  intro ok H locs ls hP hD hS hl
  exact lv_icmp_ne ok.1 ok.2.1 hd ht (fun hc => kt (fun z => hc ((zeq ha hb).mpr z)) ok H locs ls hP hD hS hl) (fun hc => kf ((zeq ha hb).mp hc) ok H locs ls hP hD hS hl)
theorem z_if_neK {a : Int} {off : Int} (t : Nat) (ha : zin a) (hd : decode M.2.2.1 pc = .ok (.ifCond .ne off, 3)) (ht : (pc : Int) + off = (t : Int)) (kt : a ≠ 0 → zVK l x g M n Q t L st d) (kf : a = 0 → zVK l x g M n Q (pc + 3) L st d) : zVK l x g M n Q pc L (zi a :: st) d := by
  obtain ⟨p, e, s, m, args, below, meth, c, A⟩ := x
  intro ok H locs ls hP hD hS hl
  exact lv_if_ne ok.1 ok.2.1 hd ht (fun hc => kt (fun z => hc ((zeq ha zin0).mpr z)) ok H locs ls hP hD hS hl) (fun hc => kf ((zeq ha zin0).mp hc) ok H locs ls hP hD hS hl)
theorem z_if_ltK {a : Int} {off : Int} (t : Nat) (ha : zin a) (hd : decode M.2.2.1 pc = .ok (.ifCond .lt off, 3)) (ht : (pc : Int) + off = (t : Int)) (kt : a < 0 → zVK l x g M n Q t L st d) (kf : 0 ≤ a → zVK l x g M n Q (pc + 3) L st d) : zVK l x g M n Q pc L (zi a :: st) d := by
  obtain ⟨p, e, s, m, args, below, meth, c, A⟩ := x
  intro ok H locs ls hP hD hS hl
  exact lv_if_lt ok.1 ok.2.1 hd ht (fun hc => kt ((zlt ha zin0).mp hc) ok H locs ls hP hD hS hl) (fun hc => kf (Int.not_lt.mp (fun z => hc ((zlt ha zin0).mpr z))) ok H locs ls hP hD hS hl)
theorem z_icmp_geK {a b : Int} {off : Int} (t : Nat) (ha : zin a) (hb : zin b) (hd : decode M.2.2.1 pc = .ok (.if_icmp .ge off, 3)) (ht : (pc : Int) + off = (t : Int)) (kt : b ≤ a → zVK l x g M n Q t L st d) (kf : a < b → zVK l x g M n Q (pc + 3) L st d) : zVK l x g M n Q pc L (zi b :: zi a :: st) d := by
  obtain ⟨p, e, s, m, args, below, meth, c, A⟩ := x
  intro ok H locs ls hP hD hS hl
  exact lv_icmp_ge ok.1 ok.2.1 hd ht (fun hc => kt ((zle hb ha).mp hc) ok H locs ls hP hD hS hl) (fun hc => kf (Int.not_le.mp (fun z => hc ((zle hb ha).mpr z))) ok H locs ls hP hD hS hl)
theorem z_if_eq_bK {b : Bool} {off : Int} (t : Nat) (hd : decode M.2.2.1 pc = .ok (.ifCond .eq off, 3)) (ht : (pc : Int) + off = (t : Int)) (kt : b = false → zVK l x g M n Q t L st d) (kf : b = true → zVK l x g M n Q (pc + 3) L st d) : zVK l x g M n Q pc L (zi (zb b) :: st) d :=
  z_if_eqK t (zb_in b) hd ht (fun h => kt (by cases b <;> simp_all [zb])) (fun h => kf (by cases b <;> simp_all [zb]))
theorem z_if_ne_bK {b : Bool} {off : Int} (t : Nat) (hd : decode M.2.2.1 pc = .ok (.ifCond .ne off, 3)) (ht : (pc : Int) + off = (t : Int)) (kt : b = true → zVK l x g M n Q t L st d) (kf : b = false → zVK l x g M n Q (pc + 3) L st d) : zVK l x g M n Q pc L (zi (zb b) :: st) d :=
  z_if_neK t (zb_in b) hd ht (fun h => kt (by cases b <;> simp_all [zb])) (fun h => kf (by cases b <;> simp_all [zb]))
theorem zgetK {ci k q : Nat} {v : Value} {vs : List Value} {idx : Nat} (hf : zfl M.1 idx ci k) (hq : (zwK g d)[q]? = some (g.2.2.1 q, .inr (ci, vs))) (hv : vs[k]? = some v) (hd : decode M.2.2.1 pc = .ok (.getfield idx, 3)) (kk : zVK l x g M n Q (pc + 3) L (v :: st) d) : zVK l x g M n Q pc L (zr g q :: st) d := by
  obtain ⟨p, e, s, m, args, below, meth, c, A⟩ := x
  intro ok H locs ls hP hD hS hl
  have kk' := kk ok H locs ls hP hD hS hl
  obtain ⟨hx, hb, hml, hown, hts, hr, hK, hA, hlk, hao, ham⟩ := ok
  obtain ⟨C, T, N, hc, hk, hin, hlink⟩ := hf
  rcases hlink with hlink | ⟨host, hlink⟩
  · exact va_get hx hb hts hin hown hK hP q hq hc k hk (hts _ hlink) (fun _ h => h) hv hd kk'
  · exact va_getN (host := host) hx hb hts hin hown hK hP q hq hc k hk (va_Nw.use (by rfl) (hao.2.2.2.2 _ _ _ ham _ hlink)) (fun _ h => h) hv hd kk'
theorem z_getiK {ci k q : Nat} {fs : List (Option Nat)} {idx : Nat} (hf : zfl M.1 idx ci k) (hq : q < 37) (hsh : zsh q = .inl (ci, fs)) (hk : fs[k]? = some none) (hd : decode M.2.2.1 pc = .ok (.getfield idx, 3)) (kk : zVK l x g M n Q (pc + 3) L (zi (d q k) :: st) d) : zVK l x g M n Q pc L (zr g q :: st) d := by
  refine zgetK hf (by rw [zw_atK g d hq, zcell_o g d hsh]) ?_ hd kk
  have := zfv_get_n g (d q) fs 0 k hk
  rwa [Nat.zero_add] at this
theorem z_getrK {ci k q t : Nat} {fs : List (Option Nat)} {idx : Nat} (hf : zfl M.1 idx ci k) (hq : q < 37) (hsh : zsh q = .inl (ci, fs)) (hk : fs[k]? = some (some t)) (hd : decode M.2.2.1 pc = .ok (.getfield idx, 3)) (kk : zVK l x g M n Q (pc + 3) L (zr g t :: st) d) : zVK l x g M n Q pc L (zr g q :: st) d :=
  zgetK hf (by rw [zw_atK g d hq, zcell_o g d hsh]) (zfv_get_s g (d q) fs 0 k hk) hd kk
theorem z_putgK {ci k q : Nat} {fs : List (Option Nat)} {idx : Nat} {ty : FieldType} {v : Int} (hf : zfp M.1 idx ci k ty) (hq : q < 37) (hsh : zsh q = .inl (ci, fs)) (hk : fs[k]? = some none) (hn : narrow ty (zi v) = zi v) (hfit : fits ty (zi v) = true) (hd : decode M.2.2.1 pc = .ok (.putfield idx, 3)) (kk : zVK l x g M n Q (pc + 3) L st (zu d q k v)) : zVK l x g M n Q pc L (zi v :: zr g q :: st) d := by
  obtain ⟨p, e, s, m, args, below, meth, c, A⟩ := x
  intro ok H locs ls hP hD hS hl
  have ok' := ok
  obtain ⟨hx, hb, hml, hown, hts, hr, hK, hA, hlk, hao, ham⟩ := ok
  obtain ⟨C, T, N, ty0, hc, hkN, hin, hlink, hty, hnm, hfin, hpd⟩ := hf
  have hat : (zwK g d)[q]? = some (g.2.2.1 q, .inr (ci, zfv g (d q) 0 fs)) := by rw [zw_atK g d hq, zcell_o g d hsh]
  have hset : (zwK g d).set q (g.2.2.1 q, .inr (ci, (zfv g (d q) 0 fs).set k (zi v))) = zwK g (zu d q k v) := by
    refine zw_setK g hq (fun j hj => zu_ne hj) ?_
    rw [zcell_o g _ hsh, zfv_set g fs 0 k hk (r' := zu d q k v q) (v := v) (fun j hj => by rw [zu_row]; rw [if_neg (by omega)]) (by rw [Nat.zero_add]; exact zu_at d q k v)]
  have hlen : k < (zfv g (d q) 0 fs).length := by rw [zfv_len]; exact (List.getElem?_eq_some_iff.mp hk).1
  rcases hlink with hlink | ⟨host, hlink⟩
  · exact va_put hx hb hts hin ty0 hty hnm hown hK hP hD hS q hat hc k hkN (hts _ hlink) (fun _ h => h) hfin hpd hn hfit hlen hd (fun H1 locs1 hP1 hD1 hS1 => by rw [hset] at hP1 hD1; exact kk ok' H1 locs1 ls hP1 hD1 hS1 hl)
  · exact va_putN (host := host) hx hb hts hin ty0 hty hnm hown hK hP hD hS q hat hc k hkN (va_Nw.use (by rfl) (hao.2.2.2.2 _ _ _ ham _ hlink)) (fun _ h => h) hfin hpd hn hfit hlen hd (fun H1 locs1 hP1 hD1 hS1 => by rw [hset] at hP1 hD1; exact kk ok' H1 locs1 ls hP1 hD1 hS1 hl)
theorem z_putiK {ci k q : Nat} {fs : List (Option Nat)} {idx : Nat} {v : Int} (hf : zfp M.1 idx ci k .int) (hq : q < 37) (hsh : zsh q = .inl (ci, fs)) (hk : fs[k]? = some none) (hd : decode M.2.2.1 pc = .ok (.putfield idx, 3)) (kk : zVK l x g M n Q (pc + 3) L st (zu d q k v)) : zVK l x g M n Q pc L (zi v :: zr g q :: st) d :=
  z_putgK hf hq hsh hk rfl rfl hd kk
theorem z_ialdK {q sz : Nat} {a : Int} (j : Nat) (hq : q < 37) (hsh : zsh q = .inr (0, sz)) (ha : a = (j : Int)) (hj : j < sz) (hsz : sz < 2147483648) (hd : decode M.2.2.1 pc = .ok (.iaload, 1)) (kk : zVK l x g M n Q (pc + 1) L (zi (d q j) :: st) d) : zVK l x g M n Q pc L (zi a :: zr g q :: st) d := by
  obtain ⟨p, e, s, m, args, below, meth, c, A⟩ := x
  intro ok H locs ls hP hD hS hl
  subst ha
  have kk' := kk ok H locs ls hP hD hS hl
  have hat : (zwK g d)[q]? = some (g.2.2.1 q, .inl (g.2.2.2.1 0, sz, .inl (fun i => Int32.ofInt (d q i)))) := by rw [zw_atK g d hq, zcell_a g d hsh (by decide)]
  refine va_iald ok.1 ok.2.1 ok.2.2.2.2.2.2.1 hP q 0 hat rfl (zvin hj hsz) hd ?_
  rw [zclamp (by omega)]
  exact kk'
theorem z_iastK {q sz : Nat} {a v : Int} (j : Nat) (hq : q < 37) (hsh : zsh q = .inr (0, sz)) (ha : a = (j : Int)) (hj : j < sz) (hsz : sz < 2147483648) (hd : decode M.2.2.1 pc = .ok (.iastore, 1)) (kk : zVK l x g M n Q (pc + 1) L st (zu d q j v)) : zVK l x g M n Q pc L (zi v :: zi a :: zr g q :: st) d := by
  obtain ⟨p, e, s, m, args, below, meth, c, A⟩ := x
  intro ok H locs ls hP hD hS hl
  subst ha
  have hat : (zwK g d)[q]? = some (g.2.2.1 q, .inl (g.2.2.2.1 0, sz, .inl (fun i => Int32.ofInt (d q i)))) := by rw [zw_atK g d hq, zcell_a g d hsh (by decide)]
  have hset : (zwK g d).set q (g.2.2.1 q, .inl (g.2.2.2.1 0, sz, .inl (upd (fun i => Int32.ofInt (d q i)) (Int32.ofInt (j : Int)).toNatClampNeg (Int32.ofInt v)))) = zwK g (zu d q j v) := by
    refine zw_setK g hq (fun i hi => zu_ne hi) ?_
    rw [zcell_a g _ hsh (by decide), zclamp (by omega)]
    congr 4
    funext i
    by_cases hi : i = j
    · subst hi; rw [pk_us, zu_at]
    · rw [pk_un hi, zu_row, if_neg hi]
  exact va_iast ok.1 ok.2.1 ok.2.2.2.2.2.2.1 hP hD hS q 0 hat rfl (zvin hj hsz) hd (fun H1 locs1 hP1 hD1 hS1 => by rw [hset] at hP1 hD1; exact kk ok H1 locs1 ls hP1 hD1 hS1 hl)
theorem z_alenK {q t sz : Nat} (hq : q < 37) (hsh : zsh q = .inr (t, sz)) (ht : t < 2) (hd : decode M.2.2.1 pc = .ok (.arraylength, 1)) (kk : zVK l x g M n Q (pc + 1) L (zi (sz : Int) :: st) d) : zVK l x g M n Q pc L (zr g q :: st) d := by
  obtain ⟨p, e, s, m, args, below, meth, c, A⟩ := x
  intro ok H locs ls hP hD hS hl
  have kk' := kk ok H locs ls hP hD hS hl
  have hat : (zwK g d)[q]? = some (g.2.2.1 q, .inl (g.2.2.2.1 t, sz, .inl (fun i => Int32.ofInt (d q i)))) := by rw [zw_atK g d hq, zcell_a g d hsh (by omega)]
  have ht' : ∃ ty, (zty g)[t]? = some (g.2.2.2.1 t, ty) := by
    rcases (show t = 0 ∨ t = 1 by omega) with rfl | rfl
    · exact ⟨_, rfl⟩
    · exact ⟨_, rfl⟩
  obtain ⟨ty, hty⟩ := ht'
  exact va_alen ok.1 ok.2.1 ok.2.2.2.2.2.2.1 hP q t hat hty (v := Int32.ofInt (sz : Int)) rfl hd kk'
theorem z_subK {L' : List (Nat × Value)} (ks : List Nat) (hL : lv_pick L ks = L') (k : zVK l x g M n Q pc L' st d) : zVK l x g M n Q pc L st d := by
  obtain ⟨p, e, s, m, args, below, meth, c, A⟩ := x
  intro ok H locs ls hP hD hS hl
  exact k ok H locs ls hP hD hS (lv_sub hl ks hL)
theorem z_iretK {v : Int} (hr : M.2.2.2.2 = some .int) (hd : decode M.2.2.1 pc = .ok (.ireturn, 1)) (hq : Q (some (zi v)) d) : zVK l x g M n Q pc L [zi v] d := by
  obtain ⟨p, e, s, m, args, below, meth, c, A⟩ := x
  intro ok H locs ls hP hD hS hl
  obtain ⟨hx, hb, hml, hown, hts, hrt, hK, hA, hlk, hao, ham⟩ := ok
  exact W.iret (v := Int32.ofInt v) hx hb (hrt.trans hr) (fun t ht hW => ⟨⟨_, d, rfl, hq, by rw [ht]; exact hP, va_K.moved hW.alike hK, hD⟩, hS.F ht⟩) hS.2.2 hd hlk
theorem z_bretK {b : Bool} (hr : M.2.2.2.2 = some .boolean) (hd : decode M.2.2.1 pc = .ok (.ireturn, 1)) (hq : Q (some (zi (zb b))) d) : zVK l x g M n Q pc L [zi (zb b)] d := by
  obtain ⟨p, e, s, m, args, below, meth, c, A⟩ := x
  intro ok H locs ls hP hD hS hl
  obtain ⟨hx, hb, hml, hown, hts, hrt, hK, hA, hlk, hao, ham⟩ := ok
  exact W.zret (v := Int32.ofInt (zb b)) (ty := .boolean) hx hb (hrt.trans hr) (by cases b <;> decide +kernel) (fun t ht hW => ⟨⟨_, d, rfl, hq, by rw [ht]; exact hP, va_K.moved hW.alike hK, hD⟩, hS.F ht⟩) hS.2.2 hd hlk
theorem z_vretK (hr : M.2.2.2.2 = none) (hd : decode M.2.2.1 pc = .ok (.return_, 1)) (hq : Q none d) : zVK l x g M n Q pc L [] d := by
  obtain ⟨p, e, s, m, args, below, meth, c, A⟩ := x
  intro ok H locs ls hP hD hS hl
  obtain ⟨hx, hb, hml, hown, hts, hrt, hK, hA, hlk, hao, ham⟩ := ok
  exact W.vret hx hb (hrt.trans hr) (fun t ht hW => ⟨⟨_, d, rfl, hq, by rw [ht]; exact hP, va_K.moved hW.alike hK, hD⟩, hS.F ht⟩) hS.2.2 hd hlk
end
theorem zCK.of {l : Launch} {g : zG} {M : zM} {n : Nat} {av : List Value} {d : zD} {Q : Option Value → zD → Prop} {k : Nat} (hM : zmk M k) (hn : (lg_sl av).length ≤ M.2.2.2.1) (hg : zAmOk g) (body : ∀ x : zX, zVK l x g M n Q 0 (lv_args 0 av) [] d) : zCK l g M n av d Q := by
  intro sz
  refine Met.ofW (cc := M.2.2.1) (maxL := M.2.2.2.1) (ret := M.2.2.2.2) hM.1 rfl ?_
  intro p e s m args below meth c s₁ B hml hv
  obtain ⟨rfl, hsz, hP, hK, hD0, ham⟩ := hv
  subst hsz
  have hD := hD0.self (sz := s.heap.size)
  have hl := lv_entry av hn
  rw [lg_entry_eq]
  have hts := atoms_spec (ws := zws M) B.pre
  exact body (p, e, s, m, _, below, meth, c, va_A (zwK g d) s.heap.size) ⟨B.exec, B.bytes, hml, by rw [hM.2.1]; exact findClass_of_methodNamed B.named, fun w hw => hts w (List.mem_cons_of_mem _ hw), B.returns, hK, fun q h => Or.inr h, B.notSynchronized, hg, ham⟩ s.heap [] _ hP hD va_S.rf hl
section
variable {l : Launch} {p : Program} {e : Env} {s : State} {m : MethodId} {args : Array Value} {below : List Frame} {meth : Method} {c : Code} {A : Nat → Prop} {g : zG} {M : zM} {n : Nat} {Q : Option Value → zD → Prop} {pc : Nat} {L : List (Nat × Value)} {st : List Value} {d : zD} {H : Heap} {locs : List Loc} {ls : Array Slot}
theorem zfreeK (hD : va_D A (zwK g d)) (hS : va_S A s.heap H locs) (hA : ∀ q : Nat, s.heap.size ≤ q → A q) : ∀ q, va_A (zwK g d) H.size q → A q := by
  intro q h
  rcases h with ⟨k, e, h⟩ | h
  · exact hD.2 k (q, e) h
  · exact hA q (Nat.le_trans hS.1 h)
theorem zpreK {av : List Value} (ok : zOk (p, e, s, m, args, below, meth, c, A) g M) (hP : va_P (zgD g) vwCl (zwK g d) H) (hD : va_D A (zwK g d)) (hS : va_S A s.heap H locs) : FrameBlind (zPcK g d av H.size) ∧ ∀ U : State, U.heap = H → s.WarmedH U.vm → zPcK g d av H.size av.toArray U := by
  obtain ⟨hx, hb, hml, hown, hts, hr, hK, hA, hlk, hao, ham⟩ := ok
  refine ⟨fun a U g' mk q => ?_, fun U hU hW => ?_⟩
  · obtain ⟨q0, q1, qP, qK, qD, qA⟩ := q
    exact ⟨q0, q1, qP, va_K.moved (u := U) (U := U.calling g' mk a) (Vm.Alike.refl U.vm) qK, qD, hao.2.1 _ U _ _ rfl qA⟩
  · refine ⟨rfl, by rw [hU], by rw [hU]; exact hP, va_K.moved hW.alike hK, hD.weaken (fun _ _ _ _ => trivial), ?_⟩
    rw [hU]
    exact hao.1 _ s U H hW (hao.2.2.2.1 A _ s H (zfreeK hD hS hA) (hao.2.2.1 A s s.heap H (fun a h1 h2 => hS.2.1 a h1 h2) ham))
theorem zrunK {Q' : Option Value → zD → Prop} {a : Array Value} {st0 rest : List Value} (hr : va_Run p l e (zrm n) s m args below meth c H locs 0 0 0 0 (F0 m pc ls st0) rest (zQcK g (va_A (zwK g d) H.size) Q' a) (va_A (zwK g d) H.size)) (ok : zOk (p, e, s, m, args, below, meth, c, A) g M) (hD : va_D A (zwK g d)) (hS : va_S A s.heap H locs) (hl : lv_has ls M.2.2.2.1 L)
    (k : ∀ (r : Option Value) (d' : zD), Q' r d' → zVK l (p, e, s, m, args, below, meth, c, A) g M n Q (pc + 3) L (r.toList ++ rest) d') : W p l e (zrm n) s m args below meth c H locs 0 0 (MQ below (zQcK g A Q) args s 0 0 A) (F0 m pc ls st0) := by
  have hA : ∀ q : Nat, s.heap.size ≤ q → A q := ok.2.2.2.2.2.2.2.1
  have hF := zfreeK hD hS hA
  intro T hT X
  obtain ⟨v, st₀, t, T', L1, h0, X', hL, e1, e2, ⟨⟨r, d', hv, hq, hP1, hK1, hD1⟩, hz, hk⟩, stp⟩ := hr T hT X
  cases hv
  rw [h0] at hz hk
  obtain ⟨t2, a1, b1⟩ := k _ d' hq ok T'.heap (locs ++ L1) ls (by rw [e1]; exact hP1) (hD1.weaken (fun k q _ h => hF q.1 h)) ⟨Nat.le_trans hS.1 (by rw [e1]; exact hz), fun q h1 h2 => by rw [e1, hk q (Nat.lt_of_lt_of_le h1 hS.1) (fun z => h2 (hF q z))]; exact hS.2.1 q h1 h2, fun q hq => by
      rcases List.mem_append.mp hq with h | h
      · exact hS.2.2 q h
      · exact hF _ (hL q h)⟩ hl T' rfl X'
  exact ⟨t2, stp t2 a1, b1⟩
end
section
variable {l : Launch} {x : zX} {g : zG} {M : zM} {n : Nat} {Q : Option Value → zD → Prop} {pc : Nat} {L : List (Nat × Value)} {st : List Value} {d : zD}
theorem z_cvK {M' : zM} {n' idx q ci k N : Nat} {fs : List (Option Nat)} {T : u_T} {As st0 : List Value} {Q' : Option Value → zD → Prop} (hc : zCK l g M' n' (zr g q :: As) d Q') (hM : zmk M' k) (hi : zmi M') (hlk : zml M.1 idx M') (hn : n' < n) (hq : q < 37) (hsh : zsh q = .inl (ci, fs)) (hcl : vwCl[ci]? = some (M'.2.1.cls, T, N)) (hA : As.length = k) (hst : st0 = As.reverse ++ zr g q :: st) (hw : (st.map fun v => v.category).sum ≤ 8) (hd : decode M.2.2.1 pc = .ok (.invokevirtual idx, 3))
    (kk : ∀ (r : Option Value) (d' : zD), Q' r d' → zVK l x g M n Q (pc + 3) L (r.toList ++ st) d') : zVK l x g M n Q pc L st0 d := by
  obtain ⟨p, e, s, m, args, below, meth, c, A⟩ := x
  intro ok H locs ls hP hD hS hl
  have ok' := ok
  have hpre := zpreK (av := zr g q :: As) ok hP hD hS
  obtain ⟨hx, hb, hml, hown, hts, hr, hK, hAA, hlks, hao, ham⟩ := ok
  have hrec := va_recv hK hP hcl (show (zwK g d)[q]? = some (g.2.2.1 q, .inr (ci, zfv g (d q) 0 fs)) by rw [zw_atK g d hq, zcell_o g d hsh])
  have hR : (zrm n').frames + 1 ≤ (zrm n).frames ∧ 8 + (M'.2.2.2.1 + 11) + (zrm n').locals ≤ (zrm n).locals := by
    have := hM.2.2.2.2.2
    simp only [zrm]
    omega
  subst hst
  refine zrunK (Q' := Q') (a := (zr g q :: As).toArray) (rest := st) ?_ ok' hD hS hl kk
  rcases hlk with hlk | ⟨host, hlk⟩
  · exact va_runV (As := As) (rest := st) (C := M'.2.1.cls) (b := g.2.2.1 q) ⟨hx, hb, hml, hown, hts⟩ (hc H.size) (cwV k hts (zgood (fun w hw => by
      rcases List.mem_append.mp hw with hw | hw
      · simp only [List.mem_cons, List.not_mem_nil, or_false] at hw
        rcases hw with rfl | rfl | rfl | rfl
        · exact hlk
        · exact hi.1
        · exact hi.2
        · exact hM.2.2.2.2.1
      · exact (zgood_M hM w hw).1)) rfl rfl rfl ⟨rfl, hM.2.2.1⟩ hR) ⟨hpre.1, hrec, hpre.2⟩ rfl hA hl.1 rfl (lv_room hw) hd ⟨Nat.le_refl _, Nat.le_refl _⟩
  · exact va_runVN (As := As) (rest := st) (C := M'.2.1.cls) (host := host) (b := g.2.2.1 q) ⟨hx, hb, hml, hown, hts⟩ (hc H.size) ⟨va_cnB k hts (zgood_M hM) rfl rfl rfl (hao.2.2.2.2 _ _ _ ham _ hlk) (hts _ hM.2.2.2.2.1) hM.2.2.1 hR, hts _ hi.1, hts _ hi.2⟩ ⟨hpre.1, hrec, hpre.2⟩ rfl hA hl.1 rfl (lv_room hw) hd ⟨Nat.le_refl _, Nat.le_refl _⟩
theorem z_csK {M' : zM} {n' idx k : Nat} {As st0 : List Value} {Q' : Option Value → zD → Prop} (hc : zCK l g M' n' As d Q') (hM : zmk M' k) (hi : zms M') (hlk : zml M.1 idx M') (hn : n' < n) (hA : As.length = k) (hst : st0 = As.reverse ++ st) (hw : (st.map fun v => v.category).sum ≤ 8) (hd : decode M.2.2.1 pc = .ok (.invokestatic idx, 3))
    (kk : ∀ (r : Option Value) (d' : zD), Q' r d' → zVK l x g M n Q (pc + 3) L (r.toList ++ st) d') : zVK l x g M n Q pc L st0 d := by
  obtain ⟨p, e, s, m, args, below, meth, c, A⟩ := x
  intro ok H locs ls hP hD hS hl
  have ok' := ok
  have hpre := zpreK (av := As) ok hP hD hS
  obtain ⟨hx, hb, hml, hown, hts, hr, hK, hAA, hlks, hao, ham⟩ := ok
  have hR : (zrm n').frames + 1 ≤ (zrm n).frames ∧ 8 + (M'.2.2.2.1 + 11) + (zrm n').locals ≤ (zrm n).locals := by
    have := hM.2.2.2.2.2
    simp only [zrm]
    omega
  subst hst
  refine zrunK (Q' := Q') (a := As.toArray) (rest := st) ?_ ok' hD hS hl kk
  rcases hlk with hlk | ⟨host, hlk⟩
  · exact va_runS (As := As) (rest := st) ⟨hx, hb, hml, hown, hts⟩ (hc H.size) ⟨callB_of k hts (zgood_M hM) rfl rfl rfl (hts _ hM.2.2.2.2.1) (hts _ hlk) hM.2.2.1 hR, hts _ hi⟩ hpre rfl hA hl.1 rfl (lv_room hw) hd ⟨Nat.le_refl _, Nat.le_refl _⟩
  · exact va_runSN (As := As) (rest := st) (host := host) ⟨hx, hb, hml, hown, hts⟩ (hc H.size) ⟨va_cnB k hts (zgood_M hM) rfl rfl rfl (hao.2.2.2.2 _ _ _ ham _ hlk) (hts _ hM.2.2.2.2.1) hM.2.2.1 hR, hts _ hi, trivial⟩ hpre rfl hA hl.1 rfl (lv_room hw) hd ⟨Nat.le_refl _, Nat.le_refl _⟩
end
theorem zC_ofK {l : Launch} {g : zG} {M : zM} {n : Nat} {av : List Value} {d : zD} {Q : Option Value → zD → Prop} {k : Nat} {L : List (Nat × Value)} (hM : zmk M k) (hn : (lg_sl av).length ≤ M.2.2.2.1) (hg : zAmOk g) (hL : lv_args 0 av = L) (body : ∀ x : zX, zVK l x g M n Q 0 L [] d) : zCK l g M n av d Q :=
  zCK.of hM hn hg (fun x => by rw [hL]; exact body x)
theorem zpureK {l : Launch} {x : zX} {g : zG} {M : zM} {n : Nat} {Q : Option Value → zD → Prop} {pc : Nat} {L : List (Nat × Value)} {st : List Value} {d : zD} {w : Value} (k : zVK l x g M n Q pc L (w :: st) d) : ∀ (r : Option Value) (d' : zD), (r = some w ∧ d' = d) → zVK l x g M n Q pc L (r.toList ++ st) d' := by
  rintro r d' ⟨rfl, rfl⟩
  exact k
theorem zvoidK {l : Launch} {x : zX} {g : zG} {M : zM} {n : Nat} {Q : Option Value → zD → Prop} {pc : Nat} {L : List (Nat × Value)} {st : List Value} {P : zD → Prop} (k : ∀ d', P d' → zVK l x g M n Q pc L st d') : ∀ (r : Option Value) (d' : zD), (r = none ∧ P d') → zVK l x g M n Q pc L (r.toList ++ st) d' := by
  rintro r d' ⟨rfl, h⟩
  exact k d' h
theorem z_topK {l : Launch} {x : zX} {g : zG} {M : zM} {n : Nat} {Q : Option Value → zD → Prop} {pc : Nat} {L : List (Nat × Value)} {st : List Value} {d : zD} {a : Int} (b : Int) (h : a = b) (k : zVK l x g M n Q pc L (zi b :: st) d) : zVK l x g M n Q pc L (zi a :: st) d := by subst h; exact k
theorem z_LLK {l : Launch} {x : zX} {g : zG} {M : zM} {n : Nat} {Q : Option Value → zD → Prop} {pc : Nat} {L : List (Nat × Value)} {st : List Value} {d : zD} (L' : List (Nat × Value)) (h : L = L') (k : zVK l x g M n Q pc L' st d) : zVK l x g M n Q pc L st d := by subst h; exact k
theorem t_isInK (l : Launch) {g : zG} (hg : zAmOk g) (d : zD) {m s : Nat} (hm : m < 32) (hs : s < 2147483648) : zCK l g mX7_isIn 1 [zi (m : Int), zi (s : Int)] d (zpu (zi (zb (s.testBit m))) d) := by
  refine zC_ofK (L := [(0, _), (1, _)]) mk_X7_isIn (Nat.le_of_ble_eq_true rfl) hg rfl (fun x => ?_)
  refine z_iload_nK 1 dX7_isIn_0 rfl rfl ?_
  refine z_iload_nK 0 dX7_isIn_1 rfl rfl ?_
  refine z_ishrK _ (zshr hs hm) dX7_isIn_2 ?_
  refine z_iconstK dX7_isIn_3 ?_
  refine z_iandK _ (zand (s / 2 ^ m) 1) dX7_isIn_4 ?_
  refine z_topK (zb (s.testBit m)) (by rw [zbit1]; cases s.testBit m <;> rfl) ?_
  refine z_iconstK dX7_isIn_5 ?_
  refine z_icmp_neK 13 (zb_in _) (by omega) dX7_isIn_6 (by decide) (fun h_6 => ?_) (fun h_6 => ?_)
  · refine z_iconstK dX7_isIn_13 ?_
    exact z_bretK (b := false) rfl dX7_isIn_14 (zret_b (by cases hb : s.testBit m <;> simp_all [zb]))
  · refine z_iconstK dX7_isIn_9 ?_
    refine z_gotoK 14 dX7_isIn_10 (by decide) ?_
    exact z_bretK (b := true) rfl dX7_isIn_14 (zret_b (by cases hb : s.testBit m <;> simp_all [zb]))
theorem lp_plusOfK {l : Launch} {x : zX} {g : zG} {n : Nat} {Q : Option Value → zD → Prop} {d : zD} {h : Hl} {m s : Nat} (hg : zAmOk g) (w : Wf h) (H : HC 2 d h) (hm : m < hN h) (hs : s < 64) (hn : 1 < n) (hQ : Q (some (zi (plusF h m s : Nat))) d) : ∀ r k, k ≤ hN h → hN h - k < r → zVK l x g mX2_plusOf n Q 10 [(0, zr g 2), (1, zi (m : Int)), (2, zi (s : Int)), (3, zi (plusN h m s k : Nat)), (4, zi (k : Int))] [] d := by
  have w3 := w.2.2.1
  have h3 : d 2 3 = hN h := H.1.2.2.2.1
  intro r
  induction r with
  | zero => intro k hk hr; omega
  | succ r ih =>
    intro k hk hr
    refine z_iloadK 4 dX2_plusOf_10 rfl ?_
    refine z_aload_nK 0 dX2_plusOf_12 rfl rfl ?_
    refine z_getiK fl_RX2_46 (by decide) rfl rfl dX2_plusOf_13 ?_
    rw [h3]
    refine z_icmp_geK 76 (by omega) (by omega) dX2_plusOf_16 (by decide) (fun h_16 => ?_) (fun h_16 => ?_)
    · have hkN : k = hN h := by omega
      rw [hkN]
      refine z_iload_nK 3 dX2_plusOf_76 rfl rfl ?_
      exact z_iretK rfl dX2_plusOf_77 (hQ)
    · obtain ⟨e1, e2, e3, e4⟩ := H.m (show k < hN h by omega)
      have w1 := (w.2.2.2.2.2.2.1 k (by omega)).1
      refine z_aload_nK 0 dX2_plusOf_19 rfl rfl ?_
      refine z_getrK fl_RX2_15 (by decide) rfl rfl dX2_plusOf_20 ?_
      refine z_iloadK 4 dX2_plusOf_23 rfl ?_
      refine z_ialdK _ (by decide) rfl rfl (by omega) (by decide) dX2_plusOf_25 ?_
      refine z_iconstK dX2_plusOf_26 ?_
      rw [e1]
      refine z_icmp_neK 70 (by omega) (by omega) dX2_plusOf_27 (by decide) (fun h_27 => ?_) (fun h_27 => ?_)
      · refine z_iincK 4 (L' := [(0, _), (1, _), (2, _), (3, _), (4, _)]) dX2_plusOf_70 (by decide) rfl rfl rfl ?_
        refine z_gotoK 10 dX2_plusOf_73 (by decide) ?_
        refine z_LLK _ ?_ (ih (k + 1) (by omega) (by omega))
        rw [plusN]
        first | (rw [if_neg (fun hc => by obtain ⟨c1, c2, c3⟩ := hc; first | omega | simp_all)]; rfl) | (rw [if_pos ⟨by omega, by omega, by assumption⟩]; rfl)
      · refine z_aload_nK 0 dX2_plusOf_30 rfl rfl ?_
        refine z_getrK fl_RX2_19 (by decide) rfl rfl dX2_plusOf_31 ?_
        refine z_iloadK 4 dX2_plusOf_34 rfl ?_
        refine z_ialdK _ (by decide) rfl rfl (by omega) (by decide) dX2_plusOf_36 ?_
        refine z_iload_nK 1 dX2_plusOf_37 rfl rfl ?_
        rw [e2]
        refine z_icmp_neK 70 (by have := w.2.2.2.2.2.2.1 k (by omega); omega) (by omega) dX2_plusOf_38 (by decide) (fun h_38 => ?_) (fun h_38 => ?_)
        · refine z_iincK 4 (L' := [(0, _), (1, _), (2, _), (3, _), (4, _)]) dX2_plusOf_70 (by decide) rfl rfl rfl ?_
          refine z_gotoK 10 dX2_plusOf_73 (by decide) ?_
          refine z_LLK _ ?_ (ih (k + 1) (by omega) (by omega))
          rw [plusN]
          first | (rw [if_neg (fun hc => by obtain ⟨c1, c2, c3⟩ := hc; first | omega | simp_all)]; rfl) | (rw [if_pos ⟨by omega, by omega, by assumption⟩]; rfl)
        · refine z_iloadK 4 dX2_plusOf_41 rfl ?_
          refine z_iload_nK 2 dX2_plusOf_43 rfl rfl ?_
          refine z_csK (t_isInK l hg d (m := k) (s := s) (by omega) (by omega)) mk_X7_isIn ms_X7_isIn ml_RX2_67 (by omega) rfl rfl (Nat.le_of_ble_eq_true rfl) dX2_plusOf_44 (zpureK ?_)
          refine z_if_eq_bK 70 dX2_plusOf_47 (by decide) (fun h_47 => ?_) (fun h_47 => ?_)
          · refine z_iincK 4 (L' := [(0, _), (1, _), (2, _), (3, _), (4, _)]) dX2_plusOf_70 (by decide) rfl rfl rfl ?_
            refine z_gotoK 10 dX2_plusOf_73 (by decide) ?_
            refine z_LLK _ ?_ (ih (k + 1) (by omega) (by omega))
            rw [plusN]
            first | (rw [if_neg (fun hc => by obtain ⟨c1, c2, c3⟩ := hc; first | omega | simp_all)]; rfl) | (rw [if_pos ⟨by omega, by omega, by assumption⟩]; rfl)
          · refine z_iload_nK 3 dX2_plusOf_50 rfl rfl ?_
            refine z_aload_nK 0 dX2_plusOf_51 rfl rfl ?_
            refine z_getrK fl_RX2_25 (by decide) rfl rfl dX2_plusOf_52 ?_
            refine z_iloadK 4 dX2_plusOf_55 rfl ?_
            skip
            refine z_ialdK _ (by decide) rfl rfl (by omega) (by decide) dX2_plusOf_57 ?_
            rw [e4]
            refine z_iconstK dX2_plusOf_58 ?_
            refine z_ixorK _ (zxorm _) dX2_plusOf_59 ?_
            refine z_iandK _ zandm dX2_plusOf_60 ?_
            refine z_aload_nK 0 dX2_plusOf_61 rfl rfl ?_
            refine z_getrK fl_RX2_22 (by decide) rfl rfl dX2_plusOf_62 ?_
            refine z_iloadK 4 dX2_plusOf_65 rfl ?_
            refine z_ialdK _ (by decide) rfl rfl (by omega) (by decide) dX2_plusOf_67 ?_
            rw [e3]
            refine z_iorK _ (zor _ _) dX2_plusOf_68 ?_
            refine z_istore_nK (L' := [(0, _), (1, _), (2, _), (3, _), (4, _)]) dX2_plusOf_69 rfl (by decide) rfl rfl ?_
            refine z_iincK 4 (L' := [(0, _), (1, _), (2, _), (3, _), (4, _)]) dX2_plusOf_70 (by decide) rfl rfl rfl ?_
            refine z_gotoK 10 dX2_plusOf_73 (by decide) ?_
            refine z_LLK _ ?_ (ih (k + 1) (by omega) (by omega))
            rw [plusN]
            first | (rw [if_neg (fun hc => by obtain ⟨c1, c2, c3⟩ := hc; first | omega | simp_all)]; rfl) | (rw [if_pos ⟨by omega, by omega, by assumption⟩]; rfl)
theorem t_plusOfK (l : Launch) {g : zG} (hg : zAmOk g) {d : zD} {h : Hl} (w : Wf h) (H : HC 2 d h) {m s : Nat} (hm : m < hN h) (hs : s < 64) : zCK l g mX2_plusOf 2 [zr g 2, zi (m : Int), zi (s : Int)] d (zpu (zi (plusF h m s : Nat)) d) := by
  have w3 := w.2.2.1
  have e := (H.m hm).2.2.1
  refine zC_ofK (L := [(0, _), (1, _), (2, _)]) mk_X2_plusOf (Nat.le_of_ble_eq_true rfl) hg rfl (fun x => ?_)
  refine z_aload_nK 0 dX2_plusOf_0 rfl rfl ?_
  refine z_getrK fl_RX2_22 (by decide) rfl rfl dX2_plusOf_1 ?_
  refine z_iload_nK 1 dX2_plusOf_4 rfl rfl ?_
  refine z_ialdK _ (by decide) rfl rfl (by omega) (by decide) dX2_plusOf_5 ?_
  rw [e]
  refine z_istore_nK (L' := [(0, _), (1, _), (2, _), (3, _)]) dX2_plusOf_6 rfl (by decide) rfl rfl ?_
  refine z_iconstK dX2_plusOf_7 ?_
  refine z_istoreK (L' := [(0, _), (1, _), (2, _), (3, _), (4, _)]) dX2_plusOf_8 (by decide) rfl rfl ?_
  exact lp_plusOfK hg w H hm hs (by decide) ⟨rfl, rfl⟩ (hN h + 1) 0 (by omega) (by omega)
theorem lp_formOfK {l : Launch} {x : zX} {g : zG} {n : Nat} {Q : Option Value → zD → Prop} {d : zD} {h : Hl} {s : Nat} {b : Int} (hg : zAmOk g) (w : Wf h) (H : HC 2 d h) (hs : s < 64) (hn : 2 < n) (hQ : Q (some (zi (formF h s : Nat))) d) : ∀ r k, k ≤ hN h → hN h - k < r → zVK l x g mX2_formOf n Q 70 [(0, zr g 2), (1, zi (s : Int)), (2, zi b), (3, zi (formN h s k : Nat)), (4, zi (fsort h s : Nat)), (5, zi (k : Int))] [] d := by
  have w3 := w.2.2.1
  have h3 : d 2 3 = hN h := H.1.2.2.2.1
  have hf : fsort h s ≤ 2 := by unfold fsort; split <;> omega
  intro r
  induction r with
  | zero => intro k hk hr; omega
  | succ r ih =>
    intro k hk hr
    refine z_iloadK 5 dX2_formOf_70 rfl ?_
    refine z_aload_nK 0 dX2_formOf_72 rfl rfl ?_
    refine z_getiK fl_RX2_46 (by decide) rfl rfl dX2_formOf_73 ?_
    rw [h3]
    refine z_icmp_geK 126 (by omega) (by omega) dX2_formOf_76 (by decide) (fun h_76 => ?_) (fun h_76 => ?_)
    · have hkN : k = hN h := by omega
      rw [hkN]
      refine z_iload_nK 3 dX2_formOf_126 rfl rfl ?_
      exact z_iretK rfl dX2_formOf_127 (hQ)
    · obtain ⟨e1, e2, e3, e4⟩ := H.m (show k < hN h by omega)
      refine z_aload_nK 0 dX2_formOf_79 rfl rfl ?_
      refine z_getrK fl_RX2_15 (by decide) rfl rfl dX2_formOf_80 ?_
      refine z_iloadK 5 dX2_formOf_83 rfl ?_
      refine z_ialdK _ (by decide) rfl rfl (by omega) (by decide) dX2_formOf_85 ?_
      refine z_iloadK 4 dX2_formOf_86 rfl ?_
      rw [e1]
      have w1 := (w.2.2.2.2.2.2.1 k (by omega)).1
      refine z_icmp_neK 120 (by omega) (by omega) dX2_formOf_88 (by decide) (fun h_88 => ?_) (fun h_88 => ?_)
      · refine z_iincK 5 (L' := [(0, _), (1, _), (2, _), (3, _), (4, _), (5, _)]) dX2_formOf_120 (by decide) rfl rfl rfl ?_
        refine z_gotoK 70 dX2_formOf_123 (by decide) ?_
        refine z_LLK _ ?_ (ih (k + 1) (by omega) (by omega))
        rw [formN]
        first | (rw [if_neg (fun hc => by obtain ⟨c1, c2⟩ := hc; first | omega | simp_all)]; rfl) | (rw [if_pos ⟨by omega, by assumption⟩]; rfl)
      · refine z_iloadK 5 dX2_formOf_91 rfl ?_
        refine z_iload_nK 1 dX2_formOf_93 rfl rfl ?_
        refine z_csK (t_isInK l hg d (m := k) (s := s) (by omega) (by omega)) mk_X7_isIn ms_X7_isIn ml_RX2_67 (by omega) rfl rfl (Nat.le_of_ble_eq_true rfl) dX2_formOf_94 (zpureK ?_)
        refine z_if_eq_bK 120 dX2_formOf_97 (by decide) (fun h_97 => ?_) (fun h_97 => ?_)
        · refine z_iincK 5 (L' := [(0, _), (1, _), (2, _), (3, _), (4, _), (5, _)]) dX2_formOf_120 (by decide) rfl rfl rfl ?_
          refine z_gotoK 70 dX2_formOf_123 (by decide) ?_
          refine z_LLK _ ?_ (ih (k + 1) (by omega) (by omega))
          rw [formN]
          first | (rw [if_neg (fun hc => by obtain ⟨c1, c2⟩ := hc; first | omega | simp_all)]; rfl) | (rw [if_pos ⟨by omega, by assumption⟩]; rfl)
        · refine z_iload_nK 3 dX2_formOf_100 rfl rfl ?_
          refine z_aload_nK 0 dX2_formOf_101 rfl rfl ?_
          refine z_getrK fl_RX2_25 (by decide) rfl rfl dX2_formOf_102 ?_
          refine z_iloadK 5 dX2_formOf_105 rfl ?_
          refine z_ialdK _ (by decide) rfl rfl (by omega) (by decide) dX2_formOf_107 ?_
          rw [e4]
          refine z_iconstK dX2_formOf_108 ?_
          refine z_ixorK _ (zxorm _) dX2_formOf_109 ?_
          refine z_iandK _ zandm dX2_formOf_110 ?_
          refine z_aload_nK 0 dX2_formOf_111 rfl rfl ?_
          refine z_iloadK 5 dX2_formOf_112 rfl ?_
          refine z_iload_nK 1 dX2_formOf_114 rfl rfl ?_
          refine z_cvK (t_plusOfK l hg w H (m := k) (s := s) (by omega) hs) mk_X2_plusOf mi_X2_plusOf ml_RX2_71 (by omega) (by decide) rfl rfl rfl rfl (Nat.le_of_ble_eq_true rfl) dX2_formOf_115 (zpureK ?_)
          refine z_iorK _ (zor _ _) dX2_formOf_118 ?_
          refine z_istore_nK (L' := [(0, _), (1, _), (2, _), (3, _), (4, _), (5, _)]) dX2_formOf_119 rfl (by decide) rfl rfl ?_
          refine z_iincK 5 (L' := [(0, _), (1, _), (2, _), (3, _), (4, _), (5, _)]) dX2_formOf_120 (by decide) rfl rfl rfl ?_
          refine z_gotoK 70 dX2_formOf_123 (by decide) ?_
          refine z_LLK _ ?_ (ih (k + 1) (by omega) (by omega))
          rw [formN]
          first | (rw [if_neg (fun hc => by obtain ⟨c1, c2⟩ := hc; first | omega | simp_all)]; rfl) | (rw [if_pos ⟨by omega, by assumption⟩]; rfl)
theorem formOf_34K {l : Launch} {x : zX} {g : zG} {n : Nat} {Q : Option Value → zD → Prop} {d : zD} {h : Hl} {s : Nat} {b : Bool} (hg : zAmOk g) (w : Wf h) (H : HC 2 d h) (hs : s < 64) (hn : 2 < n) (hQ : Q (some (zi (formF h s : Nat))) d) (hb : b = subOn h s) : zVK l x g mX2_formOf n Q 34 [(0, zr g 2), (1, zi (s : Int))] [zi (zb b)] d := by
  have w3 := w.2.2.1
  have w4 := w.2.2.2.2.2.1
  obtain ⟨⟨h0, h1, h2, h3, h4, h5⟩, -⟩ := id H
  refine z_istore_nK (L' := [(0, _), (1, _), (2, _)]) dX2_formOf_34 rfl (by decide) rfl rfl ?_
  refine z_iload_nK 2 dX2_formOf_35 rfl rfl ?_
  refine z_if_eq_bK 51 dX2_formOf_36 (by decide) (fun h_36 => ?_) (fun h_36 => ?_)
  · have f0 : formN h s 0 = hB h := by rw [formN, if_neg (by simp_all)]
    have f1 : fsort h s = 0 := by rw [fsort, if_neg (by simp_all)]
    refine z_aload_nK 0 dX2_formOf_51 rfl rfl ?_
    refine z_getiK fl_RX2_40 (by decide) rfl rfl dX2_formOf_52 ?_
    first | rw [h0] | skip
    refine z_istore_nK (L' := [(0, _), (1, _), (2, _), (3, _)]) dX2_formOf_55 rfl (by decide) rfl rfl ?_
    refine z_iload_nK 2 dX2_formOf_56 rfl rfl ?_
    refine z_if_eq_bK 64 dX2_formOf_57 (by decide) (fun h_57 => ?_) (fun h_57 => ?_)
    · refine z_iconstK dX2_formOf_64 ?_
      refine z_istoreK (L' := [(0, _), (1, _), (2, _), (3, _), (4, _)]) dX2_formOf_65 (by decide) rfl rfl ?_
      refine z_iconstK dX2_formOf_67 ?_
      refine z_istoreK (L' := [(0, _), (1, _), (2, _), (3, _), (4, _), (5, _)]) dX2_formOf_68 (by decide) rfl rfl ?_
      first | (rw [h_36] at h_57; cases h_57; done) | (have hh := lp_formOfK (b := zb b) (x := x) (n := n) (Q := Q) (l := l) hg w H hs hn hQ (hN h + 1) 0 (by omega) (by omega); rw [f0, f1] at hh; exact hh)
    · refine z_iconstK dX2_formOf_60 ?_
      refine z_gotoK 65 dX2_formOf_61 (by decide) ?_
      refine z_istoreK (L' := [(0, _), (1, _), (2, _), (3, _), (4, _)]) dX2_formOf_65 (by decide) rfl rfl ?_
      refine z_iconstK dX2_formOf_67 ?_
      refine z_istoreK (L' := [(0, _), (1, _), (2, _), (3, _), (4, _), (5, _)]) dX2_formOf_68 (by decide) rfl rfl ?_
      first | (rw [h_36] at h_57; cases h_57; done) | (have hh := lp_formOfK (b := zb b) (x := x) (n := n) (Q := Q) (l := l) hg w H hs hn hQ (hN h + 1) 0 (by omega) (by omega); rw [f0, f1] at hh; exact hh)
  · have hon : subOn h s = true := by simp_all
    have f0 : formN h s 0 = hpl h (hS h).toNat := by rw [formN, if_pos hon]
    have f1 : fsort h s = 2 := by rw [fsort, if_pos hon]
    have hS0 : 0 ≤ hS h := by simp only [subOn, Bool.and_eq_true, decide_eq_true_eq] at hon; exact hon.1
    have e := (H.m (show (hS h).toNat < hN h by omega)).2.2.1
    refine z_aload_nK 0 dX2_formOf_39 rfl rfl ?_
    refine z_getrK fl_RX2_22 (by decide) rfl rfl dX2_formOf_40 ?_
    refine z_aload_nK 0 dX2_formOf_43 rfl rfl ?_
    refine z_getiK fl_RX2_9 (by decide) rfl rfl dX2_formOf_44 ?_
    rw [h2]
    refine z_ialdK (hS h).toNat (by decide) rfl (by omega) (by omega) (by decide) dX2_formOf_47 ?_
    rw [e]
    refine z_gotoK 55 dX2_formOf_48 (by decide) ?_
    first | rw [h0] | skip
    refine z_istore_nK (L' := [(0, _), (1, _), (2, _), (3, _)]) dX2_formOf_55 rfl (by decide) rfl rfl ?_
    refine z_iload_nK 2 dX2_formOf_56 rfl rfl ?_
    refine z_if_eq_bK 64 dX2_formOf_57 (by decide) (fun h_57 => ?_) (fun h_57 => ?_)
    · refine z_iconstK dX2_formOf_64 ?_
      refine z_istoreK (L' := [(0, _), (1, _), (2, _), (3, _), (4, _)]) dX2_formOf_65 (by decide) rfl rfl ?_
      refine z_iconstK dX2_formOf_67 ?_
      refine z_istoreK (L' := [(0, _), (1, _), (2, _), (3, _), (4, _), (5, _)]) dX2_formOf_68 (by decide) rfl rfl ?_
      first | (rw [h_36] at h_57; cases h_57; done) | (have hh := lp_formOfK (b := zb b) (x := x) (n := n) (Q := Q) (l := l) hg w H hs hn hQ (hN h + 1) 0 (by omega) (by omega); rw [f0, f1] at hh; exact hh)
    · refine z_iconstK dX2_formOf_60 ?_
      refine z_gotoK 65 dX2_formOf_61 (by decide) ?_
      refine z_istoreK (L' := [(0, _), (1, _), (2, _), (3, _), (4, _)]) dX2_formOf_65 (by decide) rfl rfl ?_
      refine z_iconstK dX2_formOf_67 ?_
      refine z_istoreK (L' := [(0, _), (1, _), (2, _), (3, _), (4, _), (5, _)]) dX2_formOf_68 (by decide) rfl rfl ?_
      first | (rw [h_36] at h_57; cases h_57; done) | (have hh := lp_formOfK (b := zb b) (x := x) (n := n) (Q := Q) (l := l) hg w H hs hn hQ (hN h + 1) 0 (by omega) (by omega); rw [f0, f1] at hh; exact hh)
theorem t_formOfK (l : Launch) {g : zG} (hg : zAmOk g) {d : zD} {h : Hl} (w : Wf h) (H : HC 2 d h) {s : Nat} (hs : s < 64) : zCK l g mX2_formOf 3 [zr g 2, zi (s : Int)] d (zpu (zi (formF h s : Nat)) d) := by
  have w3 := w.2.2.1
  have w4 := w.2.2.2.2.2.1
  obtain ⟨⟨h0, h1, h2, h3, h4, h5⟩, -⟩ := id H
  refine zC_ofK (L := [(0, _), (1, _)]) mk_X2_formOf (Nat.le_of_ble_eq_true rfl) hg rfl (fun x => ?_)
  refine z_aload_nK 0 dX2_formOf_0 rfl rfl ?_
  refine z_getiK fl_RX2_9 (by decide) rfl rfl dX2_formOf_1 ?_
  rw [h2]
  refine z_if_ltK 33 (by omega) dX2_formOf_4 (by decide) (fun h_4 => ?_) (fun h_4 => ?_)
  · refine z_iconstK dX2_formOf_33 ?_
    first | (refine formOf_34K (b := false) hg w H hs (by omega) ⟨rfl, rfl⟩ ?_; unfold subOn; first | (rw [decide_eq_false (by omega)]; rfl) | (rw [decide_eq_true (by omega), h_26]; rfl)) | (refine formOf_34K (b := true) hg w H hs (by omega) ⟨rfl, rfl⟩ ?_; unfold subOn; rw [decide_eq_true (by omega), h_26]; rfl)
  · refine z_aload_nK 0 dX2_formOf_7 rfl rfl ?_
    refine z_getiK fl_RX2_9 (by decide) rfl rfl dX2_formOf_8 ?_
    refine z_aload_nK 0 dX2_formOf_11 rfl rfl ?_
    refine z_getiK fl_RX2_46 (by decide) rfl rfl dX2_formOf_12 ?_
    rw [h2, h3]
    refine z_icmp_geK 33 (by omega) (by omega) dX2_formOf_15 (by decide) (fun h_15 => absurd h_15 (by omega)) (fun h_15 => ?_)
    refine z_aload_nK 0 dX2_formOf_18 rfl rfl ?_
    refine z_getiK fl_RX2_9 (by decide) rfl rfl dX2_formOf_19 ?_
    refine z_iload_nK 1 dX2_formOf_22 rfl rfl ?_
    rw [h2, show hS h = (((hS h).toNat : Nat) : Int) by omega]
    refine z_csK (t_isInK l hg d (m := (hS h).toNat) (s := s) (by omega) (by omega)) mk_X7_isIn ms_X7_isIn ml_RX2_67 (by omega) rfl rfl (Nat.le_of_ble_eq_true rfl) dX2_formOf_23 (zpureK ?_)
    refine z_if_eq_bK 33 dX2_formOf_26 (by decide) (fun h_26 => ?_) (fun h_26 => ?_)
    · refine z_iconstK dX2_formOf_33 ?_
      first | (refine formOf_34K (b := false) hg w H hs (by omega) ⟨rfl, rfl⟩ ?_; unfold subOn; first | (rw [decide_eq_false (by omega)]; rfl) | (rw [decide_eq_true (by omega), h_26]; rfl)) | (refine formOf_34K (b := true) hg w H hs (by omega) ⟨rfl, rfl⟩ ?_; unfold subOn; rw [decide_eq_true (by omega), h_26]; rfl)
    · refine z_iconstK dX2_formOf_29 ?_
      refine z_gotoK 34 dX2_formOf_30 (by decide) ?_
      first | (refine formOf_34K (b := false) hg w H hs (by omega) ⟨rfl, rfl⟩ ?_; unfold subOn; first | (rw [decide_eq_false (by omega)]; rfl) | (rw [decide_eq_true (by omega), h_26]; rfl)) | (refine formOf_34K (b := true) hg w H hs (by omega) ⟨rfl, rfl⟩ ?_; unfold subOn; rw [decide_eq_true (by omega), h_26]; rfl)
theorem lp_takeFormsK {l : Launch} {x : zX} {g : zG} {n : Nat} {Q : Option Value → zD → Prop} {d0 : zD} {h : Hl} (hg : zAmOk g) (w : Wf h) (H : HC 2 d0 h) (hn : 3 < n) (hQ : ∀ d, zF [27] d0 d → (∀ s, s < 2 ^ hN h → d 27 s = formF h s) → Q none d) : ∀ r k d, zF [27] d0 d → (∀ s, s < k → d 27 s = formF h s) → k ≤ 2 ^ hN h → 2 ^ hN h - k < r → zVK l x g mX6_takeForms n Q 12 [(0, zr g 26), (1, zi ((1 * 2 ^ hN h : Nat) : Int)), (2, zi (k : Int))] [] d := by
  have w3 := w.2.2.1
  have hp : 2 ^ hN h ≤ 64 := Nat.pow_le_pow_right (n := 2) (by decide) w3
  intro r
  induction r with
  | zero => intro k d hf hd hk hr; omega
  | succ r ih =>
    intro k d hf hd hk hr
    have H' : HC 2 d h := hf.HC (by decide) H
    refine z_iload_nK 2 dX6_takeForms_12 rfl rfl ?_
    refine z_iload_nK 1 dX6_takeForms_13 rfl rfl ?_
    refine z_icmp_geK 37 (by omega) (by omega) dX6_takeForms_14 (by decide) (fun h_14 => ?_) (fun h_14 => ?_)
    · exact z_vretK rfl dX6_takeForms_37 (hQ d hf (fun s hs => hd s (by omega)))
    · refine z_aload_nK 0 dX6_takeForms_17 rfl rfl ?_
      refine z_getrK fl_RX6_9 (by decide) rfl rfl dX6_takeForms_18 ?_
      refine z_iload_nK 2 dX6_takeForms_21 rfl rfl ?_
      refine z_aload_nK 0 dX6_takeForms_22 rfl rfl ?_
      refine z_getrK fl_RX6_24 (by decide) rfl rfl dX6_takeForms_23 ?_
      refine z_iload_nK 2 dX6_takeForms_26 rfl rfl ?_
      refine z_cvK (t_formOfK l hg w H' (s := k) (by omega)) mk_X2_formOf mi_X2_formOf ml_RX6_42 (by omega) (by decide) rfl rfl rfl rfl (Nat.le_of_ble_eq_true rfl) dX6_takeForms_27 (zpureK ?_)
      refine z_iastK _ (by decide) rfl rfl (by omega) (by decide) dX6_takeForms_30 ?_
      refine z_iincK 2 (L' := [(0, _), (1, _), (2, _)]) dX6_takeForms_31 (by decide) rfl rfl rfl ?_
      refine z_gotoK 12 dX6_takeForms_34 (by decide) ?_
      refine ih (k + 1) _ (hf.up (by decide)) (fun s hs => ?_) (by omega) (by omega)
      rw [zu_row]
      split
      · rename_i e; rw [e]
      · exact hd s (by omega)
theorem t_takeFormsK (l : Launch) {g : zG} (hg : zAmOk g) {d : zD} {h : Hl} (w : Wf h) (H : HC 2 d h) : zCK l g mX6_takeForms 4 [zr g 26] d (fun r d' => r = none ∧ (zF [27] d d' ∧ ∀ s, s < 2 ^ hN h → d' 27 s = formF h s)) := by
  have w3 := w.2.2.1
  have hp : 2 ^ hN h ≤ 64 := Nat.pow_le_pow_right (n := 2) (by decide) w3
  have h3 : d 2 3 = hN h := H.1.2.2.2.1
  have hp0 : 0 < 2 ^ hN h := Nat.two_pow_pos _
  refine zC_ofK (L := [(0, _)]) mk_X6_takeForms (Nat.le_of_ble_eq_true rfl) hg rfl (fun x => ?_)
  refine z_iconstK dX6_takeForms_0 ?_
  refine z_aload_nK 0 dX6_takeForms_1 rfl rfl ?_
  refine z_getrK fl_RX6_24 (by decide) rfl rfl dX6_takeForms_2 ?_
  refine z_getiK fl_RX6_36 (by decide) rfl rfl dX6_takeForms_5 ?_
  rw [h3]
  refine z_ishlK _ (zshl (s := 1) (m := hN h) (by omega) (by omega)) dX6_takeForms_8 ?_
  refine z_istore_nK (L' := [(0, _), (1, _)]) dX6_takeForms_9 rfl (by decide) rfl rfl ?_
  refine z_iconstK dX6_takeForms_10 ?_
  refine z_istore_nK (L' := [(0, _), (1, _), (2, _)]) dX6_takeForms_11 rfl (by decide) rfl rfl ?_
  exact lp_takeFormsK hg w H (by omega) (fun d' h1 h2 => ⟨rfl, h1, h2⟩) (2 ^ hN h + 1) 0 d zF.rf (fun s hs => absurd hs (by omega)) (by omega) (by omega)
theorem lp_takeJointK {l : Launch} {x : zX} {g : zG} {n : Nat} {Q : Option Value → zD → Prop} {d0 : zD} {v S : Nat} {wt : Int} (hg : zAmOk g) (hv : v < 9) (hS : S < 256) (hQ : ∀ d, RowFr v d0 d → (∀ f, f < 256 → d 25 (256 * v + f) = d0 25 (256 * v + f) + (if f &&& S = S then wt else 0)) → Q none d) : ∀ r k d, RowFr v d0 d → (∀ f, f < k → d 25 (256 * v + f) = d0 25 (256 * v + f) + (if f &&& S = S then wt else 0)) → (∀ f, k ≤ f → d 25 (256 * v + f) = d0 25 (256 * v + f)) → k ≤ 256 → 256 - k < r → zVK l x g mX5_takeJoint n Q 3 [(0, zr g 24), (1, zi ((v : Int) * 256)), (2, zi (S : Int)), (3, zi wt), (4, zi (k : Int))] [] d := by
  intro r
  induction r with
  | zero => intro k d hf hd hd2 hk hr; omega
  | succ r ih =>
    intro k d hf hd hd2 hk hr
    have hle : k &&& S ≤ k := Nat.and_le_left
    refine z_iloadK 4 dX5_takeJoint_3 rfl ?_
    refine z_sipushK dX5_takeJoint_5 (by decide) ?_
    refine z_icmp_geK 38 (by omega) (by omega) dX5_takeJoint_8 (by decide) (fun h_8 => ?_) (fun h_8 => ?_)
    · exact z_vretK rfl dX5_takeJoint_38 (hQ d hf (fun f hf1 => hd f (by omega)))
    · refine z_iloadK 4 dX5_takeJoint_11 rfl ?_
      refine z_iload_nK 2 dX5_takeJoint_13 rfl rfl ?_
      refine z_iandK _ (zand _ _) dX5_takeJoint_14 ?_
      refine z_iload_nK 2 dX5_takeJoint_15 rfl rfl ?_
      refine z_icmp_neK 32 (by omega) (by omega) dX5_takeJoint_16 (by decide) (fun h_16 => ?_) (fun h_16 => ?_)
      · refine z_iincK 4 (L' := [(0, _), (1, _), (2, _), (3, _), (4, _)]) dX5_takeJoint_32 (by decide) rfl rfl rfl ?_
        refine z_gotoK 3 dX5_takeJoint_35 (by decide) ?_
        refine ih (k + 1) _ hf (fun f hf1 => ?_) (fun f hf1 => hd2 f (by omega)) (by omega) (by omega)
        by_cases e : f = k
        · subst e; rw [if_neg (by omega), hd2 f (Nat.le_refl _)]; omega
        · exact hd f (by omega)
      · refine z_aload_nK 0 dX5_takeJoint_19 rfl rfl ?_
        refine z_getrK fl_RX5_9 (by decide) rfl rfl dX5_takeJoint_20 ?_
        refine z_iload_nK 1 dX5_takeJoint_23 rfl rfl ?_
        refine z_iloadK 4 dX5_takeJoint_24 rfl ?_
        refine z_iaddK dX5_takeJoint_26 ?_
        refine z_dup2K dX5_takeJoint_27 rfl rfl ?_
        refine z_ialdK (256 * v + k) (by decide) rfl (by omega) (by omega) (by decide) dX5_takeJoint_28 ?_
        refine z_iload_nK 3 dX5_takeJoint_29 rfl rfl ?_
        refine z_iaddK dX5_takeJoint_30 ?_
        refine z_iastK (256 * v + k) (by decide) rfl (by omega) (by omega) (by decide) dX5_takeJoint_31 ?_
        refine z_iincK 4 (L' := [(0, _), (1, _), (2, _), (3, _), (4, _)]) dX5_takeJoint_32 (by decide) rfl rfl rfl ?_
        refine z_gotoK 3 dX5_takeJoint_35 (by decide) ?_
        refine ih (k + 1) _ (hf.up (by omega)) (fun f hf1 => ?_) (fun f hf1 => by rw [zu_row, if_neg (by omega)]; exact hd2 f (by omega)) (by omega) (by omega)
        rw [zu_row]
        split
        · rename_i e0
          have e : f = k := by omega
          subst e; rw [if_pos (by omega), hd2 f (Nat.le_refl _)]
        · exact hd f (by omega)
theorem t_takeJointK (l : Launch) {g : zG} (hg : zAmOk g) {d : zD} {v S : Nat} {wt : Int} (hv : v < 9) (hS : S < 256) : zCK l g mX5_takeJoint 1 [zr g 24, zi ((v : Int) * 256), zi (S : Int), zi wt] d (fun r d' => r = none ∧ (RowFr v d d' ∧ ∀ f, f < 256 → d' 25 (256 * v + f) = d 25 (256 * v + f) + (if f &&& S = S then wt else 0))) := by
  refine zC_ofK (L := [(0, _), (1, _), (2, _), (3, _)]) mk_X5_takeJoint (Nat.le_of_ble_eq_true rfl) hg rfl (fun x => ?_)
  refine z_iload_nK 2 dX5_takeJoint_0 rfl rfl ?_
  refine z_istoreK (L' := [(0, _), (1, _), (2, _), (3, _), (4, _)]) dX5_takeJoint_1 (by decide) rfl rfl ?_
  refine lp_takeJointK hg hv hS (fun d' h1 h2 => ⟨rfl, h1, h2⟩) 257 S d RowFr.rf (fun f hf => ?_) (fun f hf => rfl) (by omega) (by omega)
  have hle : f &&& S ≤ f := Nat.and_le_left
  rw [if_neg (by omega)]; omega
theorem lp3_takeVoterK {l : Launch} {x : zX} {g : zG} {n : Nat} {Q : Option Value → zD → Prop} {d0 : zD} {h : Hl} {v : Nat} (hg : zAmOk g) (w : Wf h) (H : HC 2 d0 h) (hv : v < hV h) (hn : 1 < n) (hQ : ∀ d, RowFr v d0 d → (∀ f, f < 256 → d 25 (256 * v + f) = likeF h v f) → Q none d) : ∀ r k d, RowFr v d0 d → (∀ f, f < 256 → d 25 (256 * v + f) = wsumN h v f 8 + jsumN h v f k) → k ≤ hJ h → hJ h - k < r → zVK l x g mX5_takeVoter n Q 90 [(0, zr g 24), (1, zi (v : Int)), (2, zi ((v : Int) * 256)), (3, zi (k : Int))] [] d := by
  have w3 := w.2.2.2.1
  have w4 := w.2.2.2.2.1
  intro r
  induction r with
  | zero => intro k d hf hd hk hr; omega
  | succ r ih =>
    intro k d hf hd hk hr
    have H' : HC 2 d h := hf.1.HC (by decide) H
    have h5 : d 2 5 = hJ h := H'.1.2.2.2.2.2
    refine z_iload_nK 3 dX5_takeVoter_90 rfl rfl ?_
    refine z_aload_nK 0 dX5_takeVoter_91 rfl rfl ?_
    refine z_getrK fl_RX5_15 (by decide) rfl rfl dX5_takeVoter_92 ?_
    refine z_getiK fl_RX5_32 (by decide) rfl rfl dX5_takeVoter_95 ?_
    rw [h5]
    refine z_icmp_geK 143 (by omega) (by omega) dX5_takeVoter_98 (by decide) (fun h_98 => ?_) (fun h_98 => ?_)
    · exact z_vretK rfl dX5_takeVoter_143 (hQ d hf (fun f hf1 => by rw [hd f hf1, likeF, show k = hJ h by omega]))
    · obtain ⟨e1, e2, e3⟩ : d 8 k = hjv h k ∧ d 9 k = hjs h k ∧ d 10 k = hjw h k := H'.2.2.2 k (by omega)
      obtain ⟨j1, j2, j3⟩ := w.2.2.2.2.2.2.2.2 k (by omega)
      refine z_aload_nK 0 dX5_takeVoter_101 rfl rfl ?_
      refine z_getrK fl_RX5_15 (by decide) rfl rfl dX5_takeVoter_102 ?_
      refine z_getrK fl_RX5_35 (by decide) rfl rfl dX5_takeVoter_105 ?_
      refine z_iload_nK 3 dX5_takeVoter_108 rfl rfl ?_
      refine z_ialdK _ (by decide) rfl rfl (by omega) (by decide) dX5_takeVoter_109 ?_
      refine z_iload_nK 1 dX5_takeVoter_110 rfl rfl ?_
      rw [e1]
      refine z_icmp_neK 137 (by omega) (by omega) dX5_takeVoter_111 (by decide) (fun h_111 => ?_) (fun h_111 => ?_)
      · refine z_iincK 3 (L' := [(0, _), (1, _), (2, _), (3, _)]) dX5_takeVoter_137 (by decide) rfl rfl rfl ?_
        refine z_gotoK 90 dX5_takeVoter_140 (by decide) ?_
        refine ih (k + 1) _ hf (fun f hf1 => ?_) (by omega) (by omega)
        rw [hd f hf1, jsumN, if_neg (by omega)]; omega
      · refine z_aload_nK 0 dX5_takeVoter_114 rfl rfl ?_
        refine z_iload_nK 2 dX5_takeVoter_115 rfl rfl ?_
        refine z_aload_nK 0 dX5_takeVoter_116 rfl rfl ?_
        refine z_getrK fl_RX5_15 (by decide) rfl rfl dX5_takeVoter_117 ?_
        refine z_getrK fl_RX5_38 (by decide) rfl rfl dX5_takeVoter_120 ?_
        refine z_iload_nK 3 dX5_takeVoter_123 rfl rfl ?_
        refine z_ialdK _ (by decide) rfl rfl (by omega) (by decide) dX5_takeVoter_124 ?_
        rw [e2]
        refine z_aload_nK 0 dX5_takeVoter_125 rfl rfl ?_
        refine z_getrK fl_RX5_15 (by decide) rfl rfl dX5_takeVoter_126 ?_
        refine z_getrK fl_RX5_41 (by decide) rfl rfl dX5_takeVoter_129 ?_
        refine z_iload_nK 3 dX5_takeVoter_132 rfl rfl ?_
        refine z_ialdK _ (by decide) rfl rfl (by omega) (by decide) dX5_takeVoter_133 ?_
        rw [e3]
        refine z_cvK (t_takeJointK l hg (d := d) (v := v) (S := hjs h k) (wt := hjw h k) (by omega) (by omega)) mk_X5_takeJoint mi_X5_takeJoint ml_RX5_44 (by omega) (by decide) rfl rfl rfl rfl (Nat.le_of_ble_eq_true rfl) dX5_takeVoter_134 (zvoidK fun d_134 q_134 => ?_)
        refine z_iincK 3 (L' := [(0, _), (1, _), (2, _), (3, _)]) dX5_takeVoter_137 (by decide) rfl rfl rfl ?_
        refine z_gotoK 90 dX5_takeVoter_140 (by decide) ?_
        refine ih (k + 1) _ (hf.tr q_134.1) (fun f hf1 => ?_) (by omega) (by omega)
        rw [q_134.2 f hf1, hd f hf1, jsumN]
        by_cases e : f &&& hjs h k = hjs h k
        · rw [if_pos e, if_pos ⟨by omega, e⟩]; omega
        · rw [if_neg e, if_neg (fun c => e c.2)]; omega
theorem lp2_takeVoterK {l : Launch} {x : zX} {g : zG} {n : Nat} {Q : Option Value → zD → Prop} {d0 : zD} {h : Hl} {v c : Nat} (hg : zAmOk g) (w : Wf h) (hv : v < hV h) (hc : c < 8) (hQ : ∀ d, RowFr v d0 d → (∀ f, f < 2 ^ (c + 1) → d 25 (256 * v + f) = wsumN h v f (c + 1)) → zVK l x g mX5_takeVoter n Q 82 [(0, zr g 24), (1, zi (v : Int)), (2, zi ((v : Int) * 256)), (3, zi (c : Int))] [] d) : ∀ (r k : Nat) (d : zD), RowFr v d0 d → (∀ f, f < 2 ^ c + k → d 25 (256 * v + f) = wsumN h v f (c + 1)) → k ≤ 2 ^ c → 2 ^ c - k < r → zVK l x g mX5_takeVoter n Q 45 [(0, zr g 24), (1, zi (v : Int)), (2, zi ((v : Int) * 256)), (3, zi (c : Int)), (4, zi ((1 * 2 ^ c : Nat) : Int)), (5, zi (hwe h (8 * v + c))), (6, zi (k : Int))] [] d := by
  have w3 := w.2.2.2.1
  have hp : 2 ^ c ≤ 128 := Nat.pow_le_pow_right (n := 2) (by decide) (show c ≤ 7 by omega)
  have hp1 : 2 ^ (c + 1) = 2 ^ c + 2 ^ c := by rw [Nat.pow_succ]; omega
  intro r
  induction r with
  | zero => intro k d hf hd hk hr; omega
  | succ r ih =>
    intro k d hf hd hk hr
    refine z_iloadK 6 dX5_takeVoter_45 rfl ?_
    refine z_iloadK 4 dX5_takeVoter_47 rfl ?_
    refine z_icmp_geK 82 (by omega) (by omega) dX5_takeVoter_49 (by decide) (fun h_49 => ?_) (fun h_49 => ?_)
    · refine z_subK (L' := [(0, _), (1, _), (2, _), (3, _)]) [0, 1, 2, 3] rfl ?_
      exact hQ d hf (fun f hf1 => hd f (by omega))
    · refine z_aload_nK 0 dX5_takeVoter_52 rfl rfl ?_
      refine z_getrK fl_RX5_9 (by decide) rfl rfl dX5_takeVoter_53 ?_
      refine z_iload_nK 2 dX5_takeVoter_56 rfl rfl ?_
      refine z_iloadK 4 dX5_takeVoter_57 rfl ?_
      refine z_iaddK dX5_takeVoter_59 ?_
      refine z_iloadK 6 dX5_takeVoter_60 rfl ?_
      refine z_iaddK dX5_takeVoter_62 ?_
      refine z_aload_nK 0 dX5_takeVoter_63 rfl rfl ?_
      refine z_getrK fl_RX5_9 (by decide) rfl rfl dX5_takeVoter_64 ?_
      refine z_iload_nK 2 dX5_takeVoter_67 rfl rfl ?_
      refine z_iloadK 6 dX5_takeVoter_68 rfl ?_
      refine z_iaddK dX5_takeVoter_70 ?_
      refine z_ialdK (256 * v + k) (by decide) rfl (by omega) (by omega) (by decide) dX5_takeVoter_71 ?_
      refine z_iloadK 5 dX5_takeVoter_72 rfl ?_
      refine z_iaddK dX5_takeVoter_74 ?_
      refine z_iastK (256 * v + 2 ^ c + k) (by decide) rfl (by omega) (by omega) (by decide) dX5_takeVoter_75 ?_
      refine z_iincK 6 (L' := [(0, _), (1, _), (2, _), (3, _), (4, _), (5, _), (6, _)]) dX5_takeVoter_76 (by decide) rfl rfl rfl ?_
      refine z_gotoK 45 dX5_takeVoter_79 (by decide) ?_
      refine ih (k + 1) _ (hf.up (by omega)) (fun f hf1 => ?_) (by omega) (by omega)
      rw [zu_row]
      split
      · rename_i e
        have e2 : f = 2 ^ c + k := by omega
        rw [e2, wsum_add (by omega), hd k (by omega)]
      · exact hd f (by omega)
theorem lp1_takeVoterK {l : Launch} {x : zX} {g : zG} {n : Nat} {Q : Option Value → zD → Prop} {d0 : zD} {h : Hl} {v : Nat} (hg : zAmOk g) (w : Wf h) (H : HC 2 d0 h) (hv : v < hV h) (hQ : ∀ d, RowFr v d0 d → (∀ f, f < 256 → d 25 (256 * v + f) = wsumN h v f 8) → zVK l x g mX5_takeVoter n Q 88 [(0, zr g 24), (1, zi (v : Int)), (2, zi ((v : Int) * 256))] [] d) : ∀ r k d, RowFr v d0 d → (∀ f, f < 2 ^ k → d 25 (256 * v + f) = wsumN h v f k) → k ≤ 8 → 8 - k < r → zVK l x g mX5_takeVoter n Q 15 [(0, zr g 24), (1, zi (v : Int)), (2, zi ((v : Int) * 256)), (3, zi (k : Int))] [] d := by
  have w3 := w.2.2.2.1
  intro r
  induction r with
  | zero => intro k d hf hd hk hr; omega
  | succ r ih =>
    intro k d hf hd hk hr
    have H' : HC 2 d h := hf.1.HC (by decide) H
    refine z_iload_nK 3 dX5_takeVoter_15 rfl rfl ?_
    refine z_bipushK dX5_takeVoter_16 (by decide) ?_
    refine z_icmp_geK 88 (by omega) (by omega) dX5_takeVoter_18 (by decide) (fun h_18 => ?_) (fun h_18 => ?_)
    · refine z_subK (L' := [(0, _), (1, _), (2, _)]) [0, 1, 2] rfl ?_
      exact hQ d hf (by rw [show k = 8 by omega] at hd; exact hd)
    · have hp0 : 0 < 2 ^ k := Nat.two_pow_pos k
      have hp : 2 ^ k ≤ 128 := Nat.pow_le_pow_right (n := 2) (by decide) (show k ≤ 7 by omega)
      have e : d 7 (8 * v + k) = hwe h (8 * v + k) := H'.2.2.1 (8 * v + k) (by omega)
      refine z_iconstK dX5_takeVoter_21 ?_
      refine z_iload_nK 3 dX5_takeVoter_22 rfl rfl ?_
      refine z_ishlK _ (zshl (s := 1) (m := k) (by omega) (by omega)) dX5_takeVoter_23 ?_
      refine z_istoreK (L' := [(0, _), (1, _), (2, _), (3, _), (4, _)]) dX5_takeVoter_24 (by decide) rfl rfl ?_
      refine z_aload_nK 0 dX5_takeVoter_26 rfl rfl ?_
      refine z_getrK fl_RX5_15 (by decide) rfl rfl dX5_takeVoter_27 ?_
      refine z_getrK fl_RX5_29 (by decide) rfl rfl dX5_takeVoter_30 ?_
      refine z_iload_nK 1 dX5_takeVoter_33 rfl rfl ?_
      refine z_bipushK dX5_takeVoter_34 (by decide) ?_
      refine z_imulK dX5_takeVoter_36 ?_
      refine z_iload_nK 3 dX5_takeVoter_37 rfl rfl ?_
      refine z_iaddK dX5_takeVoter_38 ?_
      refine z_ialdK (8 * v + k) (by decide) rfl (by omega) (by omega) (by decide) dX5_takeVoter_39 ?_
      rw [e]
      refine z_istoreK (L' := [(0, _), (1, _), (2, _), (3, _), (4, _), (5, _)]) dX5_takeVoter_40 (by decide) rfl rfl ?_
      refine z_iconstK dX5_takeVoter_42 ?_
      refine z_istoreK (L' := [(0, _), (1, _), (2, _), (3, _), (4, _), (5, _), (6, _)]) dX5_takeVoter_43 (by decide) rfl rfl ?_
      refine lp2_takeVoterK (c := k) hg w hv (by omega) ?_ (2 ^ k + 1) 0 d hf (fun f hf1 => by rw [wsum_hi (by omega)]; exact hd f (by omega)) (by omega) (by omega)
      intro d' hf' hd'
      refine z_iincK 3 (L' := [(0, _), (1, _), (2, _), (3, _)]) dX5_takeVoter_82 (by decide) rfl rfl rfl ?_
      refine z_gotoK 15 dX5_takeVoter_85 (by decide) ?_
      exact ih (k + 1) d' hf' hd' (by omega) (by omega)
theorem t_takeVoterK (l : Launch) {g : zG} (hg : zAmOk g) {d : zD} {h : Hl} (w : Wf h) (H : HC 2 d h) {v : Nat} (hv : v < hV h) : zCK l g mX5_takeVoter 2 [zr g 24, zi (v : Int)] d (fun r d' => r = none ∧ (RowFr v d d' ∧ ∀ f, f < 256 → d' 25 (256 * v + f) = likeF h v f)) := by
  have w3 := w.2.2.2.1
  refine zC_ofK (L := [(0, _), (1, _)]) mk_X5_takeVoter (Nat.le_of_ble_eq_true rfl) hg rfl (fun x => ?_)
  refine z_iload_nK 1 dX5_takeVoter_0 rfl rfl ?_
  refine z_sipushK dX5_takeVoter_1 (by decide) ?_
  refine z_imulK dX5_takeVoter_4 ?_
  refine z_istore_nK (L' := [(0, _), (1, _), (2, _)]) dX5_takeVoter_5 rfl (by decide) rfl rfl ?_
  refine z_aload_nK 0 dX5_takeVoter_6 rfl rfl ?_
  refine z_getrK fl_RX5_9 (by decide) rfl rfl dX5_takeVoter_7 ?_
  refine z_iload_nK 2 dX5_takeVoter_10 rfl rfl ?_
  refine z_iconstK dX5_takeVoter_11 ?_
  refine z_iastK (256 * v) (by decide) rfl (by omega) (by omega) (by decide) dX5_takeVoter_12 ?_
  refine z_iconstK dX5_takeVoter_13 ?_
  refine z_istore_nK (L' := [(0, _), (1, _), (2, _), (3, _)]) dX5_takeVoter_14 rfl (by decide) rfl rfl ?_
  refine lp1_takeVoterK hg w H hv ?_ 9 0 _ (RowFr.rf.up (by omega)) (fun f hf1 => ?_) (by omega) (by omega)
  · intro d' hf' hd'
    refine z_iconstK dX5_takeVoter_88 ?_
    refine z_istore_nK (L' := [(0, _), (1, _), (2, _), (3, _)]) dX5_takeVoter_89 rfl (by decide) rfl rfl ?_
    refine lp3_takeVoterK hg w H hv (by omega) (fun d' h1 h2 => ⟨rfl, h1, h2⟩) (hJ h + 1) 0 d' hf' (fun f hf1 => ?_) (by omega) (by omega)
    rw [hd' f hf1, jsumN]; omega
  · have e : f = 0 := by omega
    subst e; rw [Nat.add_zero, zu_at]; rfl
theorem lp_takeAllK {l : Launch} {x : zX} {g : zG} {n : Nat} {Q : Option Value → zD → Prop} {d0 : zD} {h : Hl} (hg : zAmOk g) (w : Wf h) (H : HC 2 d0 h) (hn : 2 < n) (hQ : ∀ d, zF [25] d0 d → LK d h → Q none d) : ∀ r k d, zF [25] d0 d → (∀ v f, v < k → f < 256 → d 25 (256 * v + f) = likeF h v f) → k ≤ hV h → hV h - k < r → zVK l x g mX5_takeAll n Q 2 [(0, zr g 24), (1, zi (k : Int))] [] d := by
  have w3 := w.2.2.2.1
  intro r
  induction r with
  | zero => intro k d hf hd hk hr; omega
  | succ r ih =>
    intro k d hf hd hk hr
    have H' : HC 2 d h := hf.HC (by decide) H
    have h4 : d 2 4 = hV h := H'.1.2.2.2.2.1
    refine z_iload_nK 1 dX5_takeAll_2 rfl rfl ?_
    refine z_aload_nK 0 dX5_takeAll_3 rfl rfl ?_
    refine z_getrK fl_RX5_15 (by decide) rfl rfl dX5_takeAll_4 ?_
    refine z_getiK fl_RX5_19 (by decide) rfl rfl dX5_takeAll_7 ?_
    rw [h4]
    refine z_icmp_geK 24 (by omega) (by omega) dX5_takeAll_10 (by decide) (fun h_10 => ?_) (fun h_10 => ?_)
    · exact z_vretK rfl dX5_takeAll_24 (hQ d hf (fun v f hv hf1 => hd v f (by omega) hf1))
    · refine z_aload_nK 0 dX5_takeAll_13 rfl rfl ?_
      refine z_iload_nK 1 dX5_takeAll_14 rfl rfl ?_
      refine z_cvK (t_takeVoterK l hg w H' (v := k) (by omega)) mk_X5_takeVoter mi_X5_takeVoter ml_RX5_25 (by omega) (by decide) rfl rfl rfl rfl (Nat.le_of_ble_eq_true rfl) dX5_takeAll_15 (zvoidK fun d_15 q_15 => ?_)
      refine z_iincK 1 (L' := [(0, _), (1, _)]) dX5_takeAll_18 (by decide) rfl rfl rfl ?_
      refine z_gotoK 2 dX5_takeAll_21 (by decide) ?_
      refine ih (k + 1) _ (hf.tr q_15.1.1) (fun v f hv hf1 => ?_) (by omega) (by omega)
      by_cases e : v = k
      · subst e; exact q_15.2 f hf1
      · rw [q_15.1.2 _ (by omega)]; exact hd v f (by omega) hf1
theorem t_takeAllK (l : Launch) {g : zG} (hg : zAmOk g) {d : zD} {h : Hl} (w : Wf h) (H : HC 2 d h) : zCK l g mX5_takeAll 3 [zr g 24] d (fun r d' => r = none ∧ (zF [25] d d' ∧ LK d' h)) := by
  refine zC_ofK (L := [(0, _)]) mk_X5_takeAll (Nat.le_of_ble_eq_true rfl) hg rfl (fun x => ?_)
  refine z_iconstK dX5_takeAll_0 ?_
  refine z_istore_nK (L' := [(0, _), (1, _)]) dX5_takeAll_1 rfl (by decide) rfl rfl ?_
  exact lp_takeAllK hg w H (by omega) (fun d' h1 h2 => ⟨rfl, h1, h2⟩) (hV h + 1) 0 d zF.rf (fun v f hv => absurd hv (by omega)) (by omega) (by omega)
theorem lp_areChildrenInK {l : Launch} {x : zX} {g : zG} {n : Nat} {Q : Option Value → zD → Prop} {d : zD} {h : Hl} {m s : Nat} (hg : zAmOk g) (w : Wf h) (H : HC 2 d h) (hm : m < hN h) (hs : s < 2147483648) (hn : 1 < n) (hQ : Q (some (zi (zb (chF h m s)))) d) : ∀ r k, chN h m s k = true → k ≤ hN h → hN h - k < r → zVK l x g mX0_areChildrenIn n Q 2 [(0, zr g 21), (1, zi (m : Int)), (2, zi (s : Int)), (3, zi (k : Int))] [] d := by
  have w3 := w.2.2.1
  have h3 : d 2 3 = hN h := H.1.2.2.2.1
  intro r
  induction r with
  | zero => intro k hc hk hr; omega
  | succ r ih =>
    intro k hc hk hr
    refine z_iload_nK 3 dX0_areChildrenIn_2 rfl rfl ?_
    refine z_aload_nK 0 dX0_areChildrenIn_3 rfl rfl ?_
    refine z_getrK fl_RX0_18 (by decide) rfl rfl dX0_areChildrenIn_4 ?_
    refine z_getiK fl_RX0_22 (by decide) rfl rfl dX0_areChildrenIn_7 ?_
    rw [h3]
    refine z_icmp_geK 42 (by omega) (by omega) dX0_areChildrenIn_10 (by decide) (fun h_10 => ?_) (fun h_10 => ?_)
    · refine z_iconstK dX0_areChildrenIn_42 ?_
      exact z_bretK (b := true) rfl dX0_areChildrenIn_43 ((show chF h m s = true by rw [chF, ← show k = hN h by omega]; exact hc) ▸ hQ)
    · obtain ⟨e1, e2, e3, e4⟩ := H.m (show k < hN h by omega)
      have hpw := w.pa (show k < hN h by omega)
      refine z_aload_nK 0 dX0_areChildrenIn_13 rfl rfl ?_
      refine z_getrK fl_RX0_18 (by decide) rfl rfl dX0_areChildrenIn_14 ?_
      refine z_getrK fl_RX0_39 (by decide) rfl rfl dX0_areChildrenIn_17 ?_
      refine z_iload_nK 3 dX0_areChildrenIn_20 rfl rfl ?_
      refine z_ialdK _ (by decide) rfl rfl (by omega) (by decide) dX0_areChildrenIn_21 ?_
      refine z_iload_nK 1 dX0_areChildrenIn_22 rfl rfl ?_
      rw [e2]
      refine z_icmp_neK 36 (by omega) (by omega) dX0_areChildrenIn_23 (by decide) (fun h_23 => ?_) (fun h_23 => ?_)
      · refine z_iincK 3 (L' := [(0, _), (1, _), (2, _), (3, _)]) dX0_areChildrenIn_36 (by decide) rfl rfl rfl ?_
        refine z_gotoK 2 dX0_areChildrenIn_39 (by decide) ?_
        exact ih (k + 1) (by rw [chN, hc, if_neg h_23]; rfl) (by omega) (by omega)
      · refine z_iload_nK 3 dX0_areChildrenIn_26 rfl rfl ?_
        refine z_iload_nK 2 dX0_areChildrenIn_27 rfl rfl ?_
        refine z_csK (t_isInK l hg d (m := k) (s := s) (by omega) hs) mk_X7_isIn ms_X7_isIn ml_RX0_32 (by omega) rfl rfl (Nat.le_of_ble_eq_true rfl) dX0_areChildrenIn_28 (zpureK ?_)
        refine z_if_ne_bK 36 dX0_areChildrenIn_31 (by decide) (fun h_31 => ?_) (fun h_31 => ?_)
        · refine z_iincK 3 (L' := [(0, _), (1, _), (2, _), (3, _)]) dX0_areChildrenIn_36 (by decide) rfl rfl rfl ?_
          refine z_gotoK 2 dX0_areChildrenIn_39 (by decide) ?_
          exact ih (k + 1) (by rw [chN, hc, if_pos h_23, h_31]; rfl) (by omega) (by omega)
        · refine z_iconstK dX0_areChildrenIn_34 ?_
          exact z_bretK (b := false) rfl dX0_areChildrenIn_35 ((show chF h m s = false from chN_false (show k < hN h by omega) h_23 h_31) ▸ hQ)
theorem t_areChildrenInK (l : Launch) {g : zG} (hg : zAmOk g) {d : zD} {h : Hl} (w : Wf h) (H : HC 2 d h) {m s : Nat} (hm : m < hN h) (hs : s < 2147483648) : zCK l g mX0_areChildrenIn 2 [zr g 21, zi (m : Int), zi (s : Int)] d (zpu (zi (zb (chF h m s))) d) := by
  refine zC_ofK (L := [(0, _), (1, _), (2, _)]) mk_X0_areChildrenIn (Nat.le_of_ble_eq_true rfl) hg rfl (fun x => ?_)
  refine z_iconstK dX0_areChildrenIn_0 ?_
  refine z_istore_nK (L' := [(0, _), (1, _), (2, _), (3, _)]) dX0_areChildrenIn_1 rfl (by decide) rfl rfl ?_
  exact lp_areChildrenInK hg w H hm hs (by omega) ⟨rfl, rfl⟩ (hN h + 1) 0 rfl (by omega) (by omega)
theorem lp_leastNextK {l : Launch} {x : zX} {g : zG} {n : Nat} {Q : Option Value → zD → Prop} {d : zD} {h : Hl} {s m : Nat} (hg : zAmOk g) (w : Wf h) (H : HC 2 d h) (hs : s < 2147483648) (hm : isLn h s m) (hn : 2 < n) (hQ : Q (some (zi (m : Int))) d) : ∀ r k, k ≤ m → m - k < r → zVK l x g mX0_leastNext n Q 2 [(0, zr g 21), (1, zi (s : Int)), (2, zi (k : Int))] [] d := by
  have w3 := w.2.2.1
  have h3 : d 2 3 = hN h := H.1.2.2.2.1
  obtain ⟨m1, m2, m3⟩ := hm
  simp only [okB] at m2 m3
  have hne : ∀ k, okB h s k = false → k ≠ m := fun k hk e => by subst e; simp only [okB] at hk; rw [hk] at m2; cases m2
  intro r
  induction r with
  | zero => intro k hk hr; omega
  | succ r ih =>
    intro k hk hr
    refine z_iload_nK 2 dX0_leastNext_2 rfl rfl ?_
    refine z_aload_nK 0 dX0_leastNext_3 rfl rfl ?_
    refine z_getrK fl_RX0_18 (by decide) rfl rfl dX0_leastNext_4 ?_
    refine z_getiK fl_RX0_22 (by decide) rfl rfl dX0_leastNext_7 ?_
    rw [h3]
    refine z_icmp_geK 38 (by omega) (by omega) dX0_leastNext_10 (by decide) (fun h_10 => absurd h_10 (by omega)) (fun h_10 => ?_)
    refine z_iload_nK 2 dX0_leastNext_13 rfl rfl ?_
    refine z_iload_nK 1 dX0_leastNext_14 rfl rfl ?_
    refine z_csK (t_isInK l hg d (m := k) (s := s) (by omega) hs) mk_X7_isIn ms_X7_isIn ml_RX0_32 (by omega) rfl rfl (Nat.le_of_ble_eq_true rfl) dX0_leastNext_15 (zpureK ?_)
    refine z_if_ne_bK 32 dX0_leastNext_18 (by decide) (fun h_18 => ?_) (fun h_18 => ?_)
    · refine z_iincK 2 (L' := [(0, _), (1, _), (2, _)]) dX0_leastNext_32 (by decide) rfl rfl rfl ?_
      refine z_gotoK 2 dX0_leastNext_35 (by decide) ?_
      have hk2 : k ≠ m := hne k (by simp only [okB]; first | (rw [h_18]; rfl) | (rw [h_27, Bool.and_false]))
      exact ih (k + 1) (by omega) (by omega)
    · refine z_aload_nK 0 dX0_leastNext_21 rfl rfl ?_
      refine z_iload_nK 2 dX0_leastNext_22 rfl rfl ?_
      refine z_iload_nK 1 dX0_leastNext_23 rfl rfl ?_
      refine z_cvK (t_areChildrenInK l hg w H (m := k) (s := s) (by omega) hs) mk_X0_areChildrenIn mi_X0_areChildrenIn ml_RX0_36 (by omega) (by decide) rfl rfl rfl rfl (Nat.le_of_ble_eq_true rfl) dX0_leastNext_24 (zpureK ?_)
      refine z_if_eq_bK 32 dX0_leastNext_27 (by decide) (fun h_27 => ?_) (fun h_27 => ?_)
      · refine z_iincK 2 (L' := [(0, _), (1, _), (2, _)]) dX0_leastNext_32 (by decide) rfl rfl rfl ?_
        refine z_gotoK 2 dX0_leastNext_35 (by decide) ?_
        have hk2 : k ≠ m := hne k (by simp only [okB]; first | (rw [h_18]; rfl) | (rw [h_27, Bool.and_false]))
        exact ih (k + 1) (by omega) (by omega)
      · refine z_iload_nK 2 dX0_leastNext_30 rfl rfl ?_
        have e : k = m := Classical.byContradiction fun e => by have := m3 k (by omega); rw [h_18, h_27] at this; cases this
        rw [e]
        exact z_iretK rfl dX0_leastNext_31 (hQ)
theorem t_leastNextK (l : Launch) {g : zG} (hg : zAmOk g) {d : zD} {h : Hl} (w : Wf h) (H : HC 2 d h) {s m : Nat} (hs : s < 2147483648) (hm : isLn h s m) : zCK l g mX0_leastNext 3 [zr g 21, zi (s : Int)] d (zpu (zi (m : Int)) d) := by
  refine zC_ofK (L := [(0, _), (1, _)]) mk_X0_leastNext (Nat.le_of_ble_eq_true rfl) hg rfl (fun x => ?_)
  refine z_iconstK dX0_leastNext_0 ?_
  refine z_istore_nK (L' := [(0, _), (1, _), (2, _)]) dX0_leastNext_1 rfl (by decide) rfl rfl ?_
  exact lp_leastNextK hg w H hs hm (by omega) ⟨rfl, rfl⟩ (m + 1) 0 (by omega) (by omega)
theorem lp_takeLeastK {l : Launch} {x : zX} {g : zG} {n : Nat} {Q : Option Value → zD → Prop} {d0 : zD} {h : Hl} (hg : zAmOk g) (w : Wf h) (H : HC 2 d0 h) (hn : 3 < n) (hQ : ∀ d, zF [22] d0 d → OR d h (leastO h) → Q none d) : ∀ r k d, zF [22] d0 d → (∀ i, i < k → d 22 i = leastO h i) → k ≤ hN h → hN h - k < r → zVK l x g mX0_takeLeast n Q 4 [(0, zr g 21), (1, zi (plN h k : Nat)), (2, zi (k : Int))] [] d := by
  have w3 := w.2.2.1
  have hp2 := p64 w3
  intro r
  induction r with
  | zero => intro k d hf hd hk hr; omega
  | succ r ih =>
    intro k d hf hd hk hr
    have H' : HC 2 d h := hf.HC (by decide) H
    have h3 : d 2 3 = hN h := H'.1.2.2.2.1
    have hpl := (plN_pc w k hk).2
    refine z_iload_nK 2 dX0_takeLeast_4 rfl rfl ?_
    refine z_aload_nK 0 dX0_takeLeast_5 rfl rfl ?_
    refine z_getrK fl_RX0_18 (by decide) rfl rfl dX0_takeLeast_6 ?_
    refine z_getiK fl_RX0_22 (by decide) rfl rfl dX0_takeLeast_9 ?_
    rw [h3]
    refine z_icmp_geK 40 (by omega) (by omega) dX0_takeLeast_12 (by decide) (fun h_12 => ?_) (fun h_12 => ?_)
    · exact z_vretK rfl dX0_takeLeast_40 (hQ d hf (fun i hi => hd i (by omega)))
    · have hl := least_is w (show k < hN h by omega)
      have hb := bit_le hl.1 w3
      refine z_aload_nK 0 dX0_takeLeast_15 rfl rfl ?_
      refine z_iload_nK 1 dX0_takeLeast_16 rfl rfl ?_
      refine z_cvK (t_leastNextK l hg w H' (s := plN h k) (by omega) hl) mk_X0_leastNext mi_X0_leastNext ml_RX0_28 (by omega) (by decide) rfl rfl rfl rfl (Nat.le_of_ble_eq_true rfl) dX0_takeLeast_17 (zpureK ?_)
      refine z_istore_nK (L' := [(0, _), (1, _), (2, _), (3, _)]) dX0_takeLeast_20 rfl (by decide) rfl rfl ?_
      refine z_aload_nK 0 dX0_takeLeast_21 rfl rfl ?_
      refine z_getrK fl_RX0_9 (by decide) rfl rfl dX0_takeLeast_22 ?_
      refine z_iload_nK 2 dX0_takeLeast_25 rfl rfl ?_
      refine z_iload_nK 3 dX0_takeLeast_26 rfl rfl ?_
      refine z_iastK _ (by decide) rfl rfl (by omega) (by decide) dX0_takeLeast_27 ?_
      refine z_iload_nK 1 dX0_takeLeast_28 rfl rfl ?_
      refine z_iconstK dX0_takeLeast_29 ?_
      refine z_iload_nK 3 dX0_takeLeast_30 rfl rfl ?_
      refine z_ishlK _ (zshl (s := 1) (m := leastO h k) (by have := hl.1; omega) (by omega)) dX0_takeLeast_31 ?_
      rw [Nat.one_mul]
      refine z_iorK _ (zor _ _) dX0_takeLeast_32 ?_
      refine z_istore_nK (L' := [(0, _), (1, _), (2, _), (3, _)]) dX0_takeLeast_33 rfl (by decide) rfl rfl ?_
      refine z_iincK 2 (L' := [(0, _), (1, _), (2, _), (3, _)]) dX0_takeLeast_34 (by decide) rfl rfl rfl ?_
      refine z_gotoK 4 dX0_takeLeast_37 (by decide) ?_
      refine z_subK (L' := [(0, _), (1, _), (2, _)]) [0, 1, 2] rfl ?_
      refine ih (k + 1) _ (hf.up (by decide)) (fun i hi => ?_) (by omega) (by omega)
      rw [zu_row]
      split
      · rename_i e; rw [e]
      · exact hd i (by omega)
theorem t_takeLeastK (l : Launch) {g : zG} (hg : zAmOk g) {d : zD} {h : Hl} (w : Wf h) (H : HC 2 d h) : zCK l g mX0_takeLeast 4 [zr g 21] d (fun r d' => r = none ∧ (zF [22] d d' ∧ OR d' h (leastO h))) := by
  refine zC_ofK (L := [(0, _)]) mk_X0_takeLeast (Nat.le_of_ble_eq_true rfl) hg rfl (fun x => ?_)
  refine z_iconstK dX0_takeLeast_0 ?_
  refine z_istore_nK (L' := [(0, _), (1, _)]) dX0_takeLeast_1 rfl (by decide) rfl rfl ?_
  refine z_iconstK dX0_takeLeast_2 ?_
  refine z_istore_nK (L' := [(0, _), (1, _), (2, _)]) dX0_takeLeast_3 rfl (by decide) rfl rfl ?_
  exact lp_takeLeastK hg w H (by omega) (fun d' h1 h2 => ⟨rfl, h1, h2⟩) (hN h + 1) 0 d zF.rf (fun i hi => absurd hi (by omega)) (by omega) (by omega)
theorem t_isInUK (l : Launch) {g : zG} (hg : zAmOk g) (d : zD) {m s : Nat} (hm : m < 32) : zCK l g mX7_isIn 1 [zi (m : Int), zi (s : Int)] d (zpu (zi (zb (s.testBit m))) d) := by
  refine zC_ofK (L := [(0, _), (1, _)]) mk_X7_isIn (Nat.le_of_ble_eq_true rfl) hg rfl (fun x => ?_)
  refine z_iload_nK 1 dX7_isIn_0 rfl rfl ?_
  refine z_iload_nK 0 dX7_isIn_1 rfl rfl ?_
  refine z_ishrK ((Int32.ofInt (s : Int) >>> (Int32.ofInt (m : Int) &&& 31)).toInt) (Int32.ofInt_toInt _).symm dX7_isIn_2 ?_
  refine z_iconstK dX7_isIn_3 ?_
  refine z_iandK (zb (s.testBit m)) (by rw [Int32.ofInt_toInt]; exact zshrb hm) dX7_isIn_4 ?_
  refine z_iconstK dX7_isIn_5 ?_
  refine z_icmp_neK 13 (zb_in _) (by omega) dX7_isIn_6 (by decide) (fun h_6 => ?_) (fun h_6 => ?_)
  · refine z_iconstK dX7_isIn_13 ?_
    exact z_bretK (b := false) rfl dX7_isIn_14 (zret_b (by cases hb : s.testBit m <;> simp_all [zb]))
  · refine z_iconstK dX7_isIn_9 ?_
    refine z_gotoK 14 dX7_isIn_10 (by decide) ?_
    exact z_bretK (b := true) rfl dX7_isIn_14 (zret_b (by cases hb : s.testBit m <;> simp_all [zb]))
theorem lp_fill_34K {l : Launch} {x : zX} {g : zG} {n : Nat} {Q : Option Value → zD → Prop} {d0 : zD} (hg : zAmOk g) (hQ : ∀ d, zF [34] d0 d → (∀ i, i < 8 → d 34 i = 0) → Q none d) : ∀ r k d, zF [34] d0 d → (∀ i, i < k → d 34 i = 0) → k ≤ 8 → 8 - k < r → zVK l x g mJ7_fill_53178 n Q 5 [(0, zr g 34), (1, zi 0), (2, zi (k : Int)), (3, zi ((8 : Nat) : Int))] [] d := by
  intro r
  induction r with
  | zero => intro k d hf hd hk hr; omega
  | succ r ih =>
    intro k d hf hd hk hr
    refine z_iload_nK 2 dJ7_fill_53178_5 rfl rfl ?_
    refine z_iload_nK 3 dJ7_fill_53178_6 rfl rfl ?_
    refine z_icmp_geK 20 (by omega) (by omega) dJ7_fill_53178_7 (by decide) (fun h_7 => ?_) (fun h_7 => ?_)
    · exact z_vretK rfl dJ7_fill_53178_20 (hQ d hf (fun i hi => hd i (by omega)))
    · refine z_aload_nK 0 dJ7_fill_53178_10 rfl rfl ?_
      refine z_iload_nK 2 dJ7_fill_53178_11 rfl rfl ?_
      refine z_iload_nK 1 dJ7_fill_53178_12 rfl rfl ?_
      refine z_iastK _ (by decide) rfl rfl (by omega) (by decide) dJ7_fill_53178_13 ?_
      refine z_iincK 2 (L' := [(0, _), (1, _), (2, _), (3, _)]) dJ7_fill_53178_14 (by decide) rfl rfl rfl ?_
      refine z_gotoK 5 dJ7_fill_53178_17 (by decide) ?_
      refine ih (k + 1) _ (hf.up (by decide)) (fun i hi => ?_) (by omega) (by omega)
      rw [zu_row]
      split
      · rfl
      · exact hd i (by omega)
theorem t_fill_34K (l : Launch) {g : zG} (hg : zAmOk g) (d : zD) : zCK l g mJ7_fill_53178 1 [zr g 34, zi 0] d (fun r d' => r = none ∧ (zF [34] d d' ∧ ∀ i, i < 8 → d' 34 i = 0)) := by
  refine zC_ofK (L := [(0, _), (1, _)]) mk_J7_fill_53178 (Nat.le_of_ble_eq_true rfl) hg rfl (fun x => ?_)
  refine z_iconstK dJ7_fill_53178_0 ?_
  refine z_istore_nK (L' := [(0, _), (1, _), (2, _)]) dJ7_fill_53178_1 rfl (by decide) rfl rfl ?_
  refine z_aload_nK 0 dJ7_fill_53178_2 rfl rfl ?_
  refine z_alenK (by decide) rfl (by decide) dJ7_fill_53178_3 ?_
  refine z_istore_nK (L' := [(0, _), (1, _), (2, _), (3, _)]) dJ7_fill_53178_4 rfl (by decide) rfl rfl ?_
  exact lp_fill_34K hg (fun d' h1 h2 => ⟨rfl, h1, h2⟩) (8 + 1) 0 d zF.rf (fun i hi => absurd hi (by omega)) (by omega) (by omega)
theorem t_forgetBeatenK (l : Launch) {g : zG} (hg : zAmOk g) (d : zD) : zCK l g mX1_forgetBeaten 1 [zr g 32] d (fun r d' => r = none ∧ d' = zu d 32 7 0) := by
  refine zC_ofK (L := [(0, _)]) mk_X1_forgetBeaten (Nat.le_of_ble_eq_true rfl) hg rfl (fun x => ?_)
  refine z_aload_nK 0 dX1_forgetBeaten_0 rfl rfl ?_
  refine z_iconstK dX1_forgetBeaten_1 ?_
  refine z_putgK fp_RX1_63 (by decide) rfl rfl (by decide +kernel) (by decide +kernel) dX1_forgetBeaten_2 ?_
  exact z_vretK rfl dX1_forgetBeaten_5 (⟨rfl, rfl⟩)
theorem lp2_takeOpenK {l : Launch} {x : zX} {g : zG} {n : Nat} {Q : Option Value → zD → Prop} {d0 : zD} {h : Hl} {a1 : Int} (hg : zAmOk g) (w : Wf h) (M : MKS d0 (openB h (2 ^ hN h))) (hn : 1 < n) (hQ : ∀ d, zF [32, 33] d0 d → OP d h → zVK l x g mX1_takeOpen n Q 134 [(0, zr g 32), (1, zi a1)] [] d) : ∀ r k d, zF [32, 33] d0 d → d 32 4 = (opL h k).length → (∀ i f : Nat, (opL h k)[i]? = some f → d 33 i = f) → k ≤ 256 → 256 - k < r → zVK l x g mX1_takeOpen n Q 73 [(0, zr g 32), (1, zi a1), (2, zi (k : Int))] [] d := by
  intro r
  induction r with
  | zero => intro k d hf h4 hd hk hr; omega
  | succ r ih =>
    intro k d hf h4 hd hk hr
    have M' : MKS d (openB h (2 ^ hN h)) := M.of (hf 34 (by decide))
    have hol := opL_len w k
    refine z_iload_nK 2 dX1_takeOpen_73 rfl rfl ?_
    refine z_sipushK dX1_takeOpen_74 (by decide) ?_
    refine z_icmp_geK 134 (by omega) (by omega) dX1_takeOpen_77 (by decide) (fun h_77 => ?_) (fun h_77 => ?_)
    · refine z_subK (L' := [(0, _), (1, _)]) [0, 1] rfl ?_
      refine hQ d hf ?_
      rw [show k = 256 by omega] at h4 hd
      exact ⟨h4, hd⟩
    · refine z_aload_nK 0 dX1_takeOpen_80 rfl rfl ?_
      refine z_getiK fl_RX1_53 (by decide) rfl rfl dX1_takeOpen_81 ?_
      refine z_bipushK dX1_takeOpen_84 (by decide) ?_
      rw [h4]
      refine z_icmp_geK 134 (by omega) (by omega) dX1_takeOpen_86 (by decide) (fun h_86 => ?_) (fun h_86 => ?_)
      · refine z_subK (L' := [(0, _), (1, _)]) [0, 1] rfl ?_
        refine hQ d hf ?_
        have e := opL_full w (k := k) (by omega) (by omega)
        rw [e] at h4 hd
        exact ⟨h4, hd⟩
      · obtain ⟨W, m1, m2, m3⟩ := M' (k / 32) (by omega)
        have m4 := m3 (k % 32) (Nat.mod_lt _ (by decide))
        rw [show 32 * (k / 32) + k % 32 = k by omega] at m4
        refine z_iload_nK 2 dX1_takeOpen_89 rfl rfl ?_
        refine z_bipushK dX1_takeOpen_90 (by decide) ?_
        refine z_iremK ((k % 32 : Nat) : Int) (by decide) (zrem (a := k) (b := 32) (by omega) (by decide) (by decide)) dX1_takeOpen_92 ?_
        refine z_aload_nK 0 dX1_takeOpen_93 rfl rfl ?_
        refine z_getrK fl_RX1_15 (by decide) rfl rfl dX1_takeOpen_94 ?_
        refine z_iload_nK 2 dX1_takeOpen_97 rfl rfl ?_
        refine z_bipushK dX1_takeOpen_98 (by decide) ?_
        refine z_idivK ((k / 32 : Nat) : Int) (by decide) (zdiv (a := k) (b := 32) (by omega) (by decide) (by decide)) dX1_takeOpen_100 ?_
        refine z_ialdK (k / 32) (by decide) rfl rfl (by omega) (by decide) dX1_takeOpen_101 ?_
        rw [m1]
        refine z_csK (t_isInUK l hg d (m := k % 32) (s := W) (by omega)) mk_X7_isIn ms_X7_isIn ml_RX1_56 (by omega) rfl rfl (Nat.le_of_ble_eq_true rfl) dX1_takeOpen_102 (zpureK ?_)
        refine z_if_eq_bK 128 dX1_takeOpen_105 (by decide) (fun h_105 => ?_) (fun h_105 => ?_)
        · refine z_iincK 2 (L' := [(0, _), (1, _), (2, _)]) dX1_takeOpen_128 (by decide) rfl rfl rfl ?_
          refine z_gotoK 73 dX1_takeOpen_131 (by decide) ?_
          have e : opL h (k + 1) = opL h k := by rw [opL_s, ← m4, h_105]; simp
          exact ih (k + 1) d hf (by rw [e]; exact h4) (by rw [e]; exact hd) (by omega) (by omega)
        · refine z_aload_nK 0 dX1_takeOpen_108 rfl rfl ?_
          refine z_getrK fl_RX1_9 (by decide) rfl rfl dX1_takeOpen_109 ?_
          refine z_aload_nK 0 dX1_takeOpen_112 rfl rfl ?_
          refine z_getiK fl_RX1_53 (by decide) rfl rfl dX1_takeOpen_113 ?_
          refine z_iload_nK 2 dX1_takeOpen_116 rfl rfl ?_
          rw [h4]
          refine z_iastK (opL h k).length (by decide) rfl rfl (by omega) (by decide) dX1_takeOpen_117 ?_
          refine z_aload_nK 0 dX1_takeOpen_118 rfl rfl ?_
          refine z_dupK dX1_takeOpen_119 rfl ?_
          refine z_getiK fl_RX1_53 (by decide) rfl rfl dX1_takeOpen_120 ?_
          rw [zu_ne (by decide), h4]
          refine z_iconstK dX1_takeOpen_123 ?_
          refine z_iaddK dX1_takeOpen_124 ?_
          refine z_putiK fp_RX1_53 (by decide) rfl rfl dX1_takeOpen_125 ?_
          refine z_iincK 2 (L' := [(0, _), (1, _), (2, _)]) dX1_takeOpen_128 (by decide) rfl rfl rfl ?_
          refine z_gotoK 73 dX1_takeOpen_131 (by decide) ?_
          have e : opL h (k + 1) = opL h k ++ [k] := by rw [opL_s, ← m4, h_105]; rfl
          refine ih (k + 1) _ ((hf.up (by decide)).up (by decide)) (by rw [zu_at, e, List.length_append]; rfl) (fun i f hi => ?_) (by omega) (by omega)
          rw [zu_ne (by decide), zu_row]
          rw [e] at hi
          split
          · rename_i e2
            subst e2
            rw [List.getElem?_append_right (Nat.le_refl _), Nat.sub_self] at hi
            cases hi; rfl
          · rename_i e2
            have hi2 := (List.getElem?_eq_some_iff.mp hi).1
            rw [List.length_append, List.length_singleton] at hi2
            rw [List.getElem?_append_left (by omega)] at hi
            exact hd i f hi
theorem lp1_takeOpenK {l : Launch} {x : zX} {g : zG} {n : Nat} {Q : Option Value → zD → Prop} {d0 : zD} {h : Hl} (hg : zAmOk g) (w : Wf h) (D : MD d0 h) (hQ : ∀ d, zF [34] d0 d → MKS d (openB h (2 ^ hN h)) → zVK l x g mX1_takeOpen n Q 66 [(0, zr g 32), (1, zi ((2 ^ hN h : Nat) : Int))] [] d) : ∀ r k d, zF [34] d0 d → MKS d (openB h k) → k ≤ 2 ^ hN h → 2 ^ hN h - k < r → zVK l x g mX1_takeOpen n Q 27 [(0, zr g 32), (1, zi ((2 ^ hN h : Nat) : Int)), (2, zi (k : Int))] [] d := by
  have hp2 := p64 w.2.2.1
  intro r
  induction r with
  | zero => intro k d hf hM hk hr; omega
  | succ r ih =>
    intro k d hf hM hk hr
    have D' : MD d h := D.of (hf 27 (by decide))
    have hfl := formF_lt w k
    refine z_iload_nK 2 dX1_takeOpen_27 rfl rfl ?_
    refine z_iload_nK 1 dX1_takeOpen_28 rfl rfl ?_
    refine z_icmp_geK 66 (by omega) (by omega) dX1_takeOpen_29 (by decide) (fun h_29 => ?_) (fun h_29 => ?_)
    · refine z_subK (L' := [(0, _), (1, _)]) [0, 1] rfl ?_
      rw [show k = 2 ^ hN h by omega] at hM
      exact hQ d hf hM
    · obtain ⟨W, m1, m2, m3⟩ := hM (formF h k / 32) (by omega)
      have hpw : 2 ^ (formF h k % 32) ≤ 2147483648 := Nat.pow_le_pow_right (n := 2) (by decide) (show formF h k % 32 ≤ 31 by omega)
      refine z_aload_nK 0 dX1_takeOpen_32 rfl rfl ?_
      refine z_getrK fl_RX1_32 (by decide) rfl rfl dX1_takeOpen_33 ?_
      refine z_getrK fl_RX1_48 (by decide) rfl rfl dX1_takeOpen_36 ?_
      refine z_iload_nK 2 dX1_takeOpen_39 rfl rfl ?_
      refine z_ialdK _ (by decide) rfl rfl (by omega) (by decide) dX1_takeOpen_40 ?_
      rw [D' k (by omega)]
      refine z_istore_nK (L' := [(0, _), (1, _), (2, _), (3, _)]) dX1_takeOpen_41 rfl (by decide) rfl rfl ?_
      refine z_aload_nK 0 dX1_takeOpen_42 rfl rfl ?_
      refine z_getrK fl_RX1_15 (by decide) rfl rfl dX1_takeOpen_43 ?_
      refine z_iload_nK 3 dX1_takeOpen_46 rfl rfl ?_
      refine z_bipushK dX1_takeOpen_47 (by decide) ?_
      refine z_idivK ((formF h k / 32 : Nat) : Int) (by decide) (zdiv (a := formF h k) (b := 32) (by omega) (by decide) (by decide)) dX1_takeOpen_49 ?_
      refine z_dup2K dX1_takeOpen_50 rfl rfl ?_
      refine z_ialdK (formF h k / 32) (by decide) rfl rfl (by omega) (by decide) dX1_takeOpen_51 ?_
      rw [m1]
      refine z_iconstK dX1_takeOpen_52 ?_
      refine z_iload_nK 3 dX1_takeOpen_53 rfl rfl ?_
      refine z_bipushK dX1_takeOpen_54 (by decide) ?_
      refine z_iremK ((formF h k % 32 : Nat) : Int) (by decide) (zrem (a := formF h k) (b := 32) (by omega) (by decide) (by decide)) dX1_takeOpen_56 ?_
      refine z_ishlK _ (zshl (s := 1) (m := formF h k % 32) (by omega) (by omega)) dX1_takeOpen_57 ?_
      rw [Nat.one_mul]
      refine z_iorK _ (zor _ _) dX1_takeOpen_58 ?_
      refine z_iastK (formF h k / 32) (by decide) rfl rfl (by omega) (by decide) dX1_takeOpen_59 ?_
      refine z_iincK 2 (L' := [(0, _), (1, _), (2, _), (3, _)]) dX1_takeOpen_60 (by decide) rfl rfl rfl ?_
      refine z_gotoK 27 dX1_takeOpen_63 (by decide) ?_
      refine z_subK (L' := [(0, _), (1, _), (2, _)]) [0, 1, 2] rfl ?_
      refine ih (k + 1) _ (hf.up (by decide)) ?_ (by omega) (by omega)
      have hm := hM.mark hfl m1
      intro j hj
      obtain ⟨W', q1, q2, q3⟩ := hm j hj
      exact ⟨W', q1, q2, fun b hb => by rw [q3 b hb, openB_s]⟩
theorem t_takeOpenK (l : Launch) {g : zG} (hg : zAmOk g) {d : zD} {h : Hl} (w : Wf h) (H : HC 2 d h) (D : MD d h) : zCK l g mX1_takeOpen 2 [zr g 32] d (fun r d' => r = none ∧ (zF [32, 33, 34] d d' ∧ OP d' h ∧ d' 32 7 = 0)) := by
  have w3 := w.2.2.1
  have hp2 := p64 w3
  have hp0 : 0 < 2 ^ hN h := Nat.two_pow_pos _
  refine zC_ofK (L := [(0, _)]) mk_X1_takeOpen (Nat.le_of_ble_eq_true rfl) hg rfl (fun x => ?_)
  refine z_aload_nK 0 dX1_takeOpen_0 rfl rfl ?_
  refine z_getrK fl_RX1_15 (by decide) rfl rfl dX1_takeOpen_1 ?_
  refine z_iconstK dX1_takeOpen_4 ?_
  refine z_csK (t_fill_34K l hg d) mk_J7_fill_53178 ms_J7_fill_53178 ml_RX1_36 (by omega) rfl rfl (Nat.le_of_ble_eq_true rfl) dX1_takeOpen_5 (zvoidK fun d_5 q_5 => ?_)
  obtain ⟨f1, f2⟩ := q_5
  have H1 : HC 2 d_5 h := f1.HC (by decide) H
  have D1 : MD d_5 h := D.of (f1 27 (by decide))
  have h3 : d_5 2 3 = hN h := H1.1.2.2.2.1
  refine z_aload_nK 0 dX1_takeOpen_8 rfl rfl ?_
  refine z_getrK fl_RX1_15 (by decide) rfl rfl dX1_takeOpen_9 ?_
  refine z_iconstK dX1_takeOpen_12 ?_
  refine z_iconstK dX1_takeOpen_13 ?_
  refine z_iastK 0 (by decide) rfl rfl (by omega) (by decide) dX1_takeOpen_14 ?_
  refine z_iconstK dX1_takeOpen_15 ?_
  refine z_aload_nK 0 dX1_takeOpen_16 rfl rfl ?_
  refine z_getrK fl_RX1_24 (by decide) rfl rfl dX1_takeOpen_17 ?_
  skip
  refine z_getiK fl_RX1_42 (by decide) rfl rfl dX1_takeOpen_20 ?_
  rw [zu_ne (by decide), h3]
  refine z_ishlK _ (zshl (s := 1) (m := hN h) (by omega) (by omega)) dX1_takeOpen_23 ?_
  rw [Nat.one_mul]
  refine z_istore_nK (L' := [(0, _), (1, _)]) dX1_takeOpen_24 rfl (by decide) rfl rfl ?_
  refine z_iconstK dX1_takeOpen_25 ?_
  refine z_istore_nK (L' := [(0, _), (1, _), (2, _)]) dX1_takeOpen_26 rfl (by decide) rfl rfl ?_
  refine lp1_takeOpenK (d0 := zu d_5 34 0 1) hg w (D1.of (zu_ne (by decide))) (fun d1 hf1 hM1 => ?_) (2 ^ hN h + 1) 0 _ zF.rf (fun j hj => ?_) (by omega) (by omega)
  · skip
    refine z_aload_nK 0 dX1_takeOpen_66 rfl rfl ?_
    refine z_iconstK dX1_takeOpen_67 ?_
    refine z_putiK fp_RX1_53 (by decide) rfl rfl dX1_takeOpen_68 ?_
    refine z_iconstK dX1_takeOpen_71 ?_
    refine z_istore_nK (L' := [(0, _), (1, _), (2, _)]) dX1_takeOpen_72 rfl (by decide) rfl rfl ?_
    refine lp2_takeOpenK (d0 := zu d1 32 4 0) hg w (hM1.of (zu_ne (by decide))) (by omega) (fun d2 hf2 ho2 => ?_) 257 0 _ zF.rf (by rw [zu_at]; rfl) (fun i f hi => by simp [opL] at hi) (by omega) (by omega)
    refine z_aload_nK 0 dX1_takeOpen_134 rfl rfl ?_
    refine z_cvK (t_forgetBeatenK l hg d2) mk_X1_forgetBeaten mi_X1_forgetBeaten ml_RX1_60 (by omega) (by decide) rfl rfl rfl rfl (Nat.le_of_ble_eq_true rfl) dX1_takeOpen_135 (zvoidK fun d_135 q_135 => ?_)
    subst q_135
    exact z_vretK rfl dX1_takeOpen_138 (⟨rfl, fun p hp => by rw [zu_ne (fun z => hp (by simp_all)), hf2 p (fun z => hp (by simp_all)), zu_ne (fun z => hp (by simp_all)), hf1 p (fun z => hp (by simp_all)), zu_ne (fun z => hp (by simp_all)), f1 p (fun z => hp (by simp_all))], ⟨by rw [zu_row]; exact ho2.1, fun i f hi => by rw [zu_ne (by decide)]; exact ho2.2 i f hi⟩, zu_at _ _ _ _⟩)
  · rw [zu_row]
    by_cases e : j = 0
    · subst e
      rw [if_pos rfl]
      refine ⟨1, rfl, by decide, fun b hb => ?_⟩
      unfold openB
      show Nat.testBit (2 ^ 0) b = _
      rw [Nat.testBit_two_pow]
      simp [eq_comm]
    · rw [if_neg e, f2 j hj]
      refine ⟨0, rfl, by decide, fun b hb => ?_⟩
      unfold openB
      rw [Nat.zero_testBit, decide_eq_false (by omega)]
      rfl
theorem t_takeToldK (l : Launch) {g : zG} (hg : zAmOk g) {d : zD} {h : Hl} (w : Wf h) (H : HC 2 d h) {tl : Nat} {tp : Nat → Nat} {fl : Int} (T : TPE d tl tp) (F : d 0 2 = fl ∧ 0 ≤ fl ∧ fl < 10000) : zCK l g mX7_takeTold 5 [zr g 0] d (fun r d' => r = none ∧ (CF d d' ∧ IC d' h (leastO h) tl tp fl)) := by
  obtain ⟨j1, j2, j3⟩ := T
  refine zC_ofK (L := [(0, _)]) mk_X7_takeTold (Nat.le_of_ble_eq_true rfl) hg rfl (fun x => ?_)
  refine z_aload_nK 0 dX7_takeTold_0 rfl rfl ?_
  refine z_getrK fl_RX7_37 (by decide) rfl rfl dX7_takeTold_1 ?_
  refine z_cvK (t_takeLeastK l hg w H) mk_X0_takeLeast mi_X0_takeLeast ml_RX7_241 (by omega) (by decide) rfl rfl rfl rfl (Nat.le_of_ble_eq_true rfl) dX7_takeTold_4 (zvoidK fun d_4 q_4 => ?_)
  obtain ⟨a1, a2⟩ := q_4
  have H1 : HC 2 d_4 h := a1.HC (by decide) H
  refine z_aload_nK 0 dX7_takeTold_7 rfl rfl ?_
  refine z_getrK fl_RX7_44 (by decide) rfl rfl dX7_takeTold_8 ?_
  refine z_cvK (t_takeAllK l hg w H1) mk_X5_takeAll mi_X5_takeAll ml_RX7_244 (by omega) (by decide) rfl rfl rfl rfl (Nat.le_of_ble_eq_true rfl) dX7_takeTold_11 (zvoidK fun d_11 q_11 => ?_)
  obtain ⟨b1, b2⟩ := q_11
  have H2 : HC 2 d_11 h := b1.HC (by decide) H1
  refine z_aload_nK 0 dX7_takeTold_14 rfl rfl ?_
  refine z_getrK fl_RX7_53 (by decide) rfl rfl dX7_takeTold_15 ?_
  refine z_cvK (t_takeFormsK l hg w H2) mk_X6_takeForms mi_X6_takeForms ml_RX7_247 (by omega) (by decide) rfl rfl rfl rfl (Nat.le_of_ble_eq_true rfl) dX7_takeTold_18 (zvoidK fun d_18 q_18 => ?_)
  obtain ⟨c1, c2⟩ := q_18
  have H3 : HC 2 d_18 h := c1.HC (by decide) H2
  refine z_aload_nK 0 dX7_takeTold_21 rfl rfl ?_
  refine z_getrK fl_RX7_69 (by decide) rfl rfl dX7_takeTold_22 ?_
  refine z_cvK (t_takeOpenK l hg w H3 c2) mk_X1_takeOpen mi_X1_takeOpen ml_RX7_250 (by omega) (by decide) rfl rfl rfl rfl (Nat.le_of_ble_eq_true rfl) dX7_takeTold_25 (zvoidK fun d_25 q_25 => ?_)
  obtain ⟨e1, e2, e3⟩ := q_25
  have hF : ∀ p, p ≠ 22 → p ≠ 25 → p ≠ 27 → p ≠ 32 → p ≠ 33 → p ≠ 34 → d_25 p = d p := fun p h1 h2 h3 h4 h5 h6 => by rw [e1 p (by simp; omega), c1 p (by simp; omega), b1 p (by simp; omega), a1 p (by simp; omega)]
  exact z_vretK rfl dX7_takeTold_28 (⟨rfl, fun p hp => hF p (by omega) (by omega) (by omega) (by omega) (by omega) (by omega), w, e1.HC (by decide) H3, (b2.of (c1 25 (by decide))).of (e1 25 (by decide)), MD.of c2 (e1 27 (by decide)), e2, fun i hi => by rw [e1 22 (by decide), c1 22 (by decide), b1 22 (by decide)]; exact a2 i hi, least_Ord w, ⟨false, e3, fun hb => by cases hb⟩, ⟨by rw [hF 0 (by decide) (by decide) (by decide) (by decide) (by decide) (by decide)]; exact j1, j2, fun i hi => by rw [hF 1 (by decide) (by decide) (by decide) (by decide) (by decide) (by decide)]; exact j3 i hi⟩, by rw [hF 0 (by decide) (by decide) (by decide) (by decide) (by decide) (by decide)]; exact F⟩)
