/-! THE LIGHT LOGIC: all cells of the class, the reference and the law's long array as one world, whose numbers are a function d of a place and an index; values on the stack are zi, zl, zr; zV: the machine from here on, zC: a method's contract -/
abbrev zD : Type := Nat → Nat → Int
abbrev zAm : Type := (Nat → Prop) → State → Heap → Prop
abbrev zG : Type := (Nat → ClassId) × (Nat → Nat → Nat) × (Nat → Nat) × (Nat → ClassId) × zAm
abbrev zM : Type := String × MethodName × ByteArray × Nat × Option FieldType
abbrev zX : Type := Program × Env × State × MethodId × Array Value × List Frame × Method × Code × (Nat → Prop)
def zi (a : Int) : Value := .int (Int32.ofInt a)
def zl (a : Int) : Value := .long (Int64.ofInt a)
def zr (g : zG) (p : Nat) : Value := .ref (g.2.2.1 p)
/-- the world's shape: an object of a class (its fields: references to places, or numbers), or a row (0 int, 1 boolean, 2 long) of a length -/
def zsh : Nat → (Nat × List (Option Nat)) ⊕ (Nat × Nat) := fun p => match p with
  | 0 => .inl (7, [some 1, none, none, some 2, some 11, some 20, some 21, some 24, some 26, some 31, some 32])
  | 1 => .inr (0, 400)
  | 2 => .inl (2, [none, none, none, none, none, none, some 3, some 4, some 5, some 6, some 7, some 8, some 9, some 10])
  | 3 => .inr (0, 6) | 4 => .inr (0, 6) | 5 => .inr (0, 6) | 6 => .inr (0, 6) | 7 => .inr (0, 72) | 8 => .inr (0, 6) | 9 => .inr (0, 6) | 10 => .inr (0, 6)
  | 11 => .inl (2, [none, none, none, none, none, none, some 12, some 13, some 14, some 15, some 16, some 17, some 18, some 19])
  | 12 => .inr (0, 6) | 13 => .inr (0, 6) | 14 => .inr (0, 6) | 15 => .inr (0, 6) | 16 => .inr (0, 72) | 17 => .inr (0, 6) | 18 => .inr (0, 6) | 19 => .inr (0, 6)
  | 20 => .inl (3, [some 1, some 11, none, none, none, none, none, none, none, none, none, none, none])
  | 21 => .inl (0, [some 2, some 22, some 23])
  | 22 => .inr (0, 6) | 23 => .inr (0, 64)
  | 24 => .inl (5, [some 2, some 25])
  | 25 => .inr (0, 2304)
  | 26 => .inl (6, [some 2, some 21, some 24, some 27, some 28, some 29, some 30, none, none])
  | 27 => .inr (0, 64) | 28 => .inr (0, 448) | 29 => .inr (0, 6) | 30 => .inr (0, 7)
  | 31 => .inl (4, [some 2, some 24, some 26, some 21, none, none, none, none])
  | 32 => .inl (1, [some 2, some 24, some 26, some 33, none, some 34, some 35, none, some 36, none])
  | 33 => .inr (0, 65) | 34 => .inr (0, 8) | 35 => .inr (0, 195) | 36 => .inr (0, 65)
  | 37 => .inl (8, [none, some 38, some 39, some 40, some 41, some 42, some 43, some 44, some 45, some 46, some 47, some 48, some 49, some 50, some 51, some 52, some 53, some 54, some 55, some 56, some 57, none, none, none, none, none, none, none, none, none, none, none, none, some 58, some 59, some 60, some 61, none, some 62, none, some 63, some 64, some 65])
  | 38 => .inr (0, 6) | 39 => .inr (0, 6) | 40 => .inr (0, 6) | 41 => .inr (0, 6) | 42 => .inr (0, 6) | 43 => .inr (0, 6) | 44 => .inr (0, 6) | 45 => .inr (0, 6) | 46 => .inr (0, 6) | 47 => .inr (0, 6)
  | 48 => .inr (0, 72) | 49 => .inr (0, 72) | 50 => .inr (0, 6) | 51 => .inr (0, 6) | 52 => .inr (0, 6) | 53 => .inr (0, 6) | 54 => .inr (0, 6) | 55 => .inr (0, 6) | 56 => .inr (0, 6) | 57 => .inr (0, 400)
  | 58 => .inr (0, 6) | 59 => .inr (0, 2304) | 60 => .inr (0, 448) | 61 => .inr (0, 448) | 62 => .inr (0, 80) | 63 => .inr (1, 256) | 64 => .inr (1, 256) | 65 => .inr (1, 256)
  | _ => .inr (2, 1)
def zfv (g : zG) (r : Nat → Int) : Nat → List (Option Nat) → List Value
  | _, [] => []
  | k, some q :: t => zr g q :: zfv g r (k + 1) t
  | k, none :: t => zi (r k) :: zfv g r (k + 1) t
def zar (g : zG) (r : Nat → Int) (t n : Nat) : va_E := if t = 2 then .inl (g.2.2.2.1 2, n, .inr (.inl (fun i => Int64.ofInt (r i)))) else .inl (g.2.2.2.1 t, n, .inl (fun i => Int32.ofInt (r i)))
def zcell (g : zG) (d : zD) (p : Nat) : va_E := match zsh p with
  | .inl o => .inr (o.1, zfv g (d p) 0 o.2)
  | .inr a => zar g (d p) a.1 a.2
def zN : Nat := 67
def zw (g : zG) (d : zD) : va_W := (List.range zN).map (fun p => (g.2.2.1 p, zcell g d p))
def zu (d : zD) (p i : Nat) (v : Int) : zD := fun q j => if q = p then (if j = i then v else d q j) else d q j
abbrev zgD (g : zG) : va_G := (g.1, g.2.1)
abbrev zty (g : zG) : List (ClassId × FieldType) := [(g.2.2.2.1 0, .int), (g.2.2.2.1 1, .boolean), (g.2.2.2.1 2, .long)]
def zrm (n : Nat) : Room := { frames := n, cells := 0, slots := 0, locals := 40 * n }
def zNest : Cond → Bool
  | .fieldLinkNest .. => true
  | .methodLinkNest .. => true
  | _ => false
def zTB : List Cond := lw_tbl.filter goodWord
def zNW : List Cond := lw_tbl.filter zNest
theorem zTB_in {w : Cond} (i : Nat) (h : lw_tbl[i]? = some w) (hg : goodWord w = true) : w ∈ zTB := List.mem_filter.mpr ⟨List.mem_of_getElem? h, hg⟩
theorem zTB_of {w : Cond} (h : w ∈ lw_tbl) (hg : goodWord w = true) : w ∈ zTB := List.mem_filter.mpr ⟨h, hg⟩
theorem zNW_in {w : Cond} (i : Nat) (h : lw_tbl[i]? = some w) (hg : zNest w = true) : w ∈ zNW := List.mem_filter.mpr ⟨List.mem_of_getElem? h, hg⟩
/-- what the ambient facts (nest links, strings, statics) keep to -/
def zAmOk (g : zG) : Prop :=
  (∀ (A : Nat → Prop) (s U : State) (H : Heap), s.WarmedH U.vm → g.2.2.2.2 A s H → g.2.2.2.2 A U H) ∧
  (∀ (A : Nat → Prop) (s U : State) (H : Heap), s.vm = U.vm → g.2.2.2.2 A s H → g.2.2.2.2 A U H) ∧
  (∀ (A : Nat → Prop) (s : State) (H H1 : Heap), (∀ a : Nat, a < H.size → ¬ A a → H1[a]? = H[a]?) → g.2.2.2.2 A s H → g.2.2.2.2 A s H1) ∧
  (∀ (A B : Nat → Prop) (s : State) (H : Heap), (∀ q, B q → A q) → g.2.2.2.2 A s H → g.2.2.2.2 B s H) ∧
  (∀ (A : Nat → Prop) (s : State) (H : Heap), g.2.2.2.2 A s H → ∀ w ∈ zNW, va_Nw w s)
def zQc (g : zG) (A : Nat → Prop) (Qp : Option Value → zD → Prop) : Array Value → State → Outcome → State → Prop := fun _ st o t =>
  (∃ (r : Option Value) (d' : zD), o = .returned r ∧ Qp r d' ∧ va_P (zgD g) vwCl (zw g d') t.heap ∧ va_K (zgD g) vwCl (zty g) t ∧ va_D A (zw g d')) ∧ va_F A st t
def zPc (g : zG) (d : zD) (av : List Value) (sz : Nat) : Array Value → State → Prop :=
  va_Pc av (fun U => U.heap.size = sz ∧ va_P (zgD g) vwCl (zw g d) U.heap ∧ va_K (zgD g) vwCl (zty g) U ∧ va_D (fun _ => True) (zw g d) ∧ g.2.2.2.2 (va_A (zw g d) sz) U U.heap)
abbrev zws (M : zM) : List Cond := Cond.code M.2.1 M.2.2.1 M.2.2.2.1 M.2.2.2.2 :: zTB
/-- a method's contract, n frames deep: called with av in a world of numbers d it returns, and Qp holds of its answer and the numbers behind it -/
def zC (l : Launch) (g : zG) (M : zM) (n : Nat) (av : List Value) (d : zD) (Qp : Option Value → zD → Prop) : Prop :=
  ∀ sz : Nat, Met l M.2.1 (zws M) (zrm n) (zPc g d av sz) (zQc g (va_A (zw g d) sz) Qp) 0 0 (va_A (zw g d) sz)
def zOk (x : zX) (g : zG) (M : zM) : Prop := match x with
  | (p, _, s, m, args, _, meth, c, A) =>
    p.tables.exec = Jvm.exec ∧ c.code = M.2.2.1 ∧ c.maxLocals = M.2.2.2.1 ∧ s.vm.findClass M.1 = some m.cls ∧ (∀ w ∈ zTB, w.before args s = true) ∧ meth.sig.returnType = M.2.2.2.2 ∧
    va_K (zgD g) vwCl (zty g) s ∧ (∀ q : Nat, s.heap.size ≤ q → A q) ∧ meth.locks = false ∧ zAmOk g ∧ g.2.2.2.2 A s s.heap
/-- the machine from here on, in the method M: at pc, with locals L, stack st, numbers d -/
def zV (l : Launch) (x : zX) (g : zG) (M : zM) (n : Nat) (Qp : Option Value → zD → Prop) (pc : Nat) (L : List (Nat × Value)) (st : List Value) (d : zD) : Prop := match x with
  | (p, e, s, m, args, below, meth, c, A) => zOk (p, e, s, m, args, below, meth, c, A) g M → ∀ (H : Heap) (locs : List Loc) (ls : Array Slot),
    va_P (zgD g) vwCl (zw g d) H → va_D A (zw g d) → va_S A s.heap H locs → lv_has ls M.2.2.2.1 L →
    W p l e (zrm n) s m args below meth c H locs 0 0 (MQ below (zQc g A Qp) args s 0 0 A) (F0 m pc ls st)
theorem zw_len (g : zG) (d : zD) : (zw g d).length = zN := by simp [zw]
theorem zw_at (g : zG) (d : zD) {p : Nat} (hp : p < zN) : (zw g d)[p]? = some (g.2.2.1 p, zcell g d p) := by simp [zw, hp]
theorem zcell_congr (g : zG) {d d' : zD} {p : Nat} (h : d p = d' p) : zcell g d p = zcell g d' p := by unfold zcell; rw [h]
theorem zw_set (g : zG) {d d' : zD} {p : Nat} {e : va_E} (hp : p < zN) (h : ∀ q, q ≠ p → d' q = d q) (he : e = zcell g d' p) : (zw g d).set p (g.2.2.1 p, e) = zw g d' := by
  subst he
  apply List.ext_getElem?
  intro k
  by_cases hk : k = p
  · subst hk
    rw [List.getElem?_set_self (by rw [zw_len]; exact hp), zw_at g d' hp]
  · rw [List.getElem?_set_ne (Ne.symm hk)]
    by_cases hl : k < zN
    · rw [zw_at g d hl, zw_at g d' hl, zcell_congr g (h k hk)]
    · rw [List.getElem?_eq_none (by rw [zw_len]; omega), List.getElem?_eq_none (by rw [zw_len]; omega)]
theorem zu_ne {d : zD} {p i : Nat} {v : Int} {q : Nat} (h : q ≠ p) : zu d p i v q = d q := by funext j; simp [zu, h]
theorem zu_at (d : zD) (p i : Nat) (v : Int) : zu d p i v p i = v := by simp [zu]
theorem zu_row (d : zD) (p i : Nat) (v : Int) (j : Nat) : zu d p i v p j = if j = i then v else d p j := by simp [zu]
theorem zfv_get_n (g : zG) (r : Nat → Int) : ∀ (fs : List (Option Nat)) (k0 k : Nat), fs[k]? = some none → (zfv g r k0 fs)[k]? = some (zi (r (k0 + k)))
  | [], _, _, h => by simp at h
  | some q :: t, k0, 0, h => by simp at h
  | none :: t, k0, 0, h => by simp [zfv]
  | some q :: t, k0, k + 1, h => by
    have := zfv_get_n g r t (k0 + 1) k (by simpa using h)
    simp only [zfv, List.getElem?_cons_succ, this]
    congr 3; omega
  | none :: t, k0, k + 1, h => by
    have := zfv_get_n g r t (k0 + 1) k (by simpa using h)
    simp only [zfv, List.getElem?_cons_succ, this]
    congr 3; omega
theorem zfv_get_s (g : zG) (r : Nat → Int) {q : Nat} : ∀ (fs : List (Option Nat)) (k0 k : Nat), fs[k]? = some (some q) → (zfv g r k0 fs)[k]? = some (zr g q)
  | [], _, _, h => by simp at h
  | some q' :: t, k0, 0, h => by
    simp at h; subst h; simp [zfv]
  | none :: t, k0, 0, h => by simp at h
  | some q' :: t, k0, k + 1, h => by
    simpa only [zfv, List.getElem?_cons_succ] using zfv_get_s g r t (k0 + 1) k (by simpa using h)
  | none :: t, k0, k + 1, h => by
    simpa only [zfv, List.getElem?_cons_succ] using zfv_get_s g r t (k0 + 1) k (by simpa using h)
theorem zfv_ext (g : zG) {r r' : Nat → Int} : ∀ (fs : List (Option Nat)) (k0 : Nat), (∀ j, k0 ≤ j → r' j = r j) → zfv g r' k0 fs = zfv g r k0 fs
  | [], _, _ => rfl
  | some q :: t, k0, h => by simp only [zfv]; rw [zfv_ext g t (k0 + 1) (fun j hj => h j (by omega))]
  | none :: t, k0, h => by simp only [zfv]; rw [zfv_ext g t (k0 + 1) (fun j hj => h j (by omega)), h k0 (Nat.le_refl _)]
theorem zfv_set (g : zG) {r r' : Nat → Int} {v : Int} : ∀ (fs : List (Option Nat)) (k0 k : Nat), fs[k]? = some none → (∀ j, j ≠ k0 + k → r' j = r j) → r' (k0 + k) = v → (zfv g r k0 fs).set k (zi v) = zfv g r' k0 fs
  | [], _, _, h, _, _ => by simp at h
  | some q :: t, k0, 0, h, _, _ => by simp at h
  | none :: t, k0, 0, h, h1, h2 => by
    simp only [zfv, List.set_cons_zero]
    rw [zfv_ext g (r := r) (r' := r') t (k0 + 1) (fun j hj => h1 j (by omega))]
    have h2' : r' k0 = v := h2
    rw [h2']
  | some q :: t, k0, k + 1, h, h1, h2 => by
    simp only [zfv, List.set_cons_succ]
    rw [zfv_set g t (k0 + 1) k (by simpa using h) (fun j hj => h1 j (by omega)) (by rw [← h2]; congr 1; omega)]
  | none :: t, k0, k + 1, h, h1, h2 => by
    simp only [zfv, List.set_cons_succ]
    rw [zfv_set g t (k0 + 1) k (by simpa using h) (fun j hj => h1 j (by omega)) (by rw [← h2]; congr 1; omega), h1 k0 (by omega)]
theorem zfv_len (g : zG) (r : Nat → Int) : ∀ (fs : List (Option Nat)) (k0 : Nat), (zfv g r k0 fs).length = fs.length
  | [], _ => rfl
  | some q :: t, k0 => by simp [zfv, zfv_len g r t]
  | none :: t, k0 => by simp [zfv, zfv_len g r t]
theorem zcell_o (g : zG) (d : zD) {p ci : Nat} {fs : List (Option Nat)} (h : zsh p = .inl (ci, fs)) : zcell g d p = .inr (ci, zfv g (d p) 0 fs) := by unfold zcell; rw [h]
theorem zcell_a (g : zG) (d : zD) {p t n : Nat} (h : zsh p = .inr (t, n)) (ht : t ≠ 2) : zcell g d p = .inl (g.2.2.2.1 t, n, .inl (fun i => Int32.ofInt (d p i))) := by unfold zcell; rw [h]; simp [zar, ht]
theorem zcell_l (g : zG) (d : zD) {p n : Nat} (h : zsh p = .inr (2, n)) : zcell g d p = .inl (g.2.2.2.1 2, n, .inr (.inl (fun i => Int64.ofInt (d p i)))) := by unfold zcell; rw [h]; simp [zar]
/-- in the range of an int -/
abbrev zin (a : Int) : Prop := -2147483648 ≤ a ∧ a < 2147483648
theorem zto {a : Int} (h : zin a) : (Int32.ofInt a).toInt = a := Int32.toInt_ofInt_of_le h.1 h.2
theorem zlt {a b : Int} (ha : zin a) (hb : zin b) : Int32.ofInt a < Int32.ofInt b ↔ a < b := by rw [Int32.lt_iff_toInt_lt, zto ha, zto hb]
theorem zle {a b : Int} (ha : zin a) (hb : zin b) : Int32.ofInt a ≤ Int32.ofInt b ↔ a ≤ b := by rw [Int32.le_iff_toInt_le, zto ha, zto hb]
theorem zeq {a b : Int} (ha : zin a) (hb : zin b) : Int32.ofInt a = Int32.ofInt b ↔ a = b := by rw [← Int32.toInt_inj, zto ha, zto hb]
theorem zz0 : (0 : Int32) = Int32.ofInt 0 := rfl
theorem zin0 : zin 0 := by decide
theorem zclamp {k : Nat} (h : (k : Int) < 2147483648) : (Int32.ofInt (k : Int)).toNatClampNeg = k := by
  show (Int32.ofInt (k : Int)).toInt.toNat = k
  rw [zto ⟨by omega, h⟩]; omega
theorem zvin {k n : Nat} (h : k < n) (hn : n < 2147483648) : vp_in (Int32.ofInt (k : Int)) n := by
  rw [vp_in_iff, zto ⟨by omega, by omega⟩]; omega
