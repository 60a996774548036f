/-! objects in the making: the world is a list of cells -/
def gA (g : zG) (ad : Nat → Nat) : zG := (g.1, g.2.1, ad, g.2.2.2.1, g.2.2.2.2)
def zA (g : zG) (t n : Nat) : va_E := .inl (g.2.2.2.1 t, n, .inl (fun _ => Int32.ofInt 0))
def zAL (g : zG) (n : Nat) : va_E := .inl (g.2.2.2.1 2, n, .inr (.inl (fun _ => Int64.ofInt 0)))
def cV (l : Launch) (x : zX) (g : zG) (M : zM) (R : Room) (ce sl : Nat) (F : State → Prop) (pc : Nat) (L : List (Nat × Value)) (st : List Value) (ws : va_W) : Prop := match x with
  | (p, e, s, m, args, below, meth, c, A) => zOk (p, e, s, m, args, below, meth, c, A) g M → ∀ (H : Heap) (locs : List Loc) (ls : Array Slot),
    va_P (zgD g) vwCl ws H → va_D A ws → va_S A s.heap H locs → lv_has ls M.2.2.2.1 L → W p l e R s m args below meth c H locs ce sl F (F0 m pc ls st)
def cin (x : zX) : Prop := match x with
  | (_, _, _, _, _, _, meth, _, _) => meth.name = "<init>"
def zfF (own : String) (idx ci k : Nat) (ty : FieldType) : Prop := ∃ (C : String) (T : u_T) (N : Nat) (ty0 : Nat → FieldType), vwCl[ci]? = some (C, T, N) ∧ k < N ∧ (∀ w ∈ u_ws C T N, w ∈ zTB) ∧ Cond.fieldLink own idx (T k).1 (T k).2.1 (T k).2.2.1 ∈ zTB ∧
  (∀ k, k < N → parseFieldDescriptor (T k).2.2.1 = some (ty0 k)) ∧ (∀ a, a < N → ∀ b, b < N → a ≠ b → (T a).2.1 ≠ (T b).2.1) ∧ (T k).2.2.2 = true ∧ (T k).1 = own ∧ parseFieldDescriptor (T k).2.2.1 = some ty
theorem oi_i : Cond.instanceMethod Lib.objectInit ∈ zTB := zTB_in 159 (by decide +kernel) rfl
theorem oi_c : Cond.code Lib.objectInit ⟨#[0xb1]⟩ 1 none ∈ zTB := zTB_in 160 (by decide +kernel) rfl
theorem ac_i : Cond.arrayClass .int ∈ zTB := zTB_in 239 (by decide +kernel) rfl
theorem ac_b : Cond.arrayClass .boolean ∈ zTB := zTB_in 1176 (by decide +kernel) rfl
theorem ac_l : Cond.arrayClass .long ∈ zTB := zTB_in 1503 (by decide +kernel) rfl
section CROW
variable {l : Launch} {x : zX} {g : zG} {M : zM} {R : Room} {ce sl : Nat} {F : State → Prop} {pc : Nat} {L : List (Nat × Value)} {st : List Value} {ws : va_W}
theorem c_ws (ws' : va_W) (h : ws = ws') (k : cV l x g M R ce sl F pc L st ws') : cV l x g M R ce sl F pc L st ws := by subst h; exact k
theorem c_iconst {a : Int} (hd : decode M.2.2.1 pc = .ok (.iconst a, 1)) (k : cV l x g M R ce sl F (pc + 1) L (zi a :: st) ws) : cV l x g M R ce sl F pc L st ws := by
  obtain ⟨p, e, s, m, args, below, meth, c, A⟩ := x
  intro ok H locs ls hP hD hS hl
  exact lv_iconst ok.1 ok.2.1 hd rfl (k ok H locs ls hP hD hS hl)
theorem c_bipush {a : Int} (hd : decode M.2.2.1 pc = .ok (.bipush a, 2)) (ha : (Int8.ofInt a).toInt32 = Int32.ofInt a) (k : cV l x g M R ce sl F (pc + 2) L (zi a :: st) ws) : cV l x g M R ce sl F pc L st ws := by
  obtain ⟨p, e, s, m, args, below, meth, c, A⟩ := x
  intro ok H locs ls hP hD hS hl
  exact lv_bipush ok.1 ok.2.1 hd ha (k ok H locs ls hP hD hS hl)
theorem c_sipush {a : Int} (hd : decode M.2.2.1 pc = .ok (.sipush a, 3)) (ha : (Int16.ofInt a).toInt32 = Int32.ofInt a) (k : cV l x g M R ce sl F (pc + 3) L (zi a :: st) ws) : cV l x g M R ce sl F pc L st ws := by
  obtain ⟨p, e, s, m, args, below, meth, c, A⟩ := x
  intro ok H locs ls hP hD hS hl
  exact lv_sipush ok.1 ok.2.1 hd ha (k ok H locs ls hP hD hS hl)
theorem c_dup {v : Value} (hd : decode M.2.2.1 pc = .ok (.dup, 1)) (hv : v.category = 1) (k : cV l x g M R ce sl F (pc + 1) L (v :: v :: st) ws) : cV l x g M R ce sl F pc L (v :: st) ws := by
  obtain ⟨p, e, s, m, args, below, meth, c, A⟩ := x
  intro ok H locs ls hP hD hS hl
  exact lv_dup ok.1 ok.2.1 hd hv (k ok H locs ls hP hD hS hl)
theorem c_aload_n (j : Nat) {i q : Nat} {kk : Fin 4} (hd : decode M.2.2.1 pc = .ok (.aload_n kk, 1)) (hi : (kk : Nat) = i) (hj : L[j]? = some (i, .ref q)) (k : cV l x g M R ce sl F (pc + 1) L (.ref q :: st) ws) : cV l x g M R ce sl F pc L st ws := by
  obtain ⟨p, e, s, m, args, below, meth, c, A⟩ := x
  intro ok H locs ls hP hD hS hl
  exact lv_aload_n ok.1 ok.2.1 hd hi (lv_at hl j hj) (k ok H locs ls hP hD hS hl)
theorem c_astore_n {i q : Nat} {kk : Fin 4} {L' : List (Nat × Value)} (hd : decode M.2.2.1 pc = .ok (.astore_n kk, 1)) (hi : (kk : Nat) = i) (hn : i < M.2.2.2.1) (hu : zup L = true) (hL : zset L i (.ref q) = L') (k : cV l x g M R ce sl F (pc + 1) L' st ws) : cV l x g M R ce sl F pc L (.ref q :: st) ws := by
  obtain ⟨p, e, s, m, args, below, meth, c, A⟩ := x
  intro ok H locs ls hP hD hS hl
  subst hL
  exact lv_astore_n ok.1 ok.2.1 hd hi hl hn rfl (fun ls' hl' => k ok H locs ls' hP hD hS (zset_has hu hl'))
theorem c_objInit {q idx : Nat} (hlk : Cond.methodLink M.1 idx Lib.objectInit ∈ zTB) (hR : 1 ≤ R.frames ∧ 20 ≤ R.locals) (hw : (st.map fun v => v.category).sum ≤ 8) (hd : decode M.2.2.1 pc = .ok (.invokespecial idx, 3)) (k : cV l x g M R ce sl F (pc + 3) L st ws) : cV l x g M R ce sl F pc L (.ref q :: st) ws := by
  obtain ⟨p, e, s, m, args, below, meth, c, A⟩ := x
  intro ok H locs ls hP hD hS hl
  exact W.objInit ok.1 ok.2.1 ok.2.2.2.1 (ok.2.2.2.2.1 _ hlk) (ok.2.2.2.2.1 _ oi_i) (ok.2.2.2.2.1 _ oi_c) rfl (hl.1.trans ok.2.2.1.symm) rfl hd hR.1 (Nat.le_trans (Nat.add_le_add_right (lv_room hw) 12) hR.2) (k ok H locs ls hP hD hS hl)
theorem c_newI {n : Nat} (hn : n < 100000) (hcells : ce + 1 ≤ R.cells) (hslots : sl + n ≤ R.slots) (hd : decode M.2.2.1 pc = .ok (.newarray .int, 2)) (k : ∀ q : Nat, cV l x g M R (ce + 1) (sl + n) F (pc + 2) L (.ref q :: st) (ws ++ [(q, zA g 0 n)])) : cV l x g M R ce sl F pc L (zi (n : Int) :: st) ws := by
  obtain ⟨p, e, s, m, args, below, meth, c, A⟩ := x
  intro ok H locs ls hP hD hS hl
  have hK := ok.2.2.2.2.2.2.1
  refine va_newa (atype := .int) (ty := .int) (N' := n) (a0 := (n, .inl (fun _ => Int32.ofInt 0))) ok.1 ok.2.1 (ok.2.2.2.2.1 _ ac_i) rfl hK hP hD hS ok.2.2.2.2.2.2.2.1 (fun _ => rfl) ?_ (zclamp (by omega)) (by show n * 4 ≤ 536870912; omega) hcells hslots hd (fun q cA H1 hK1 hP1 hD1 hS1 => ?_)
  · rw [zz0, zlt ⟨by omega, by omega⟩ zin0]; omega
  · have h1 := (hK.2 0 _ rfl).2
    have h2 := (hK1.2 3 (cA, .int) rfl).2
    have e1 : cA = g.2.2.2.1 0 := Option.some.inj (Eq.trans (Eq.symm h2) h1)
    subst e1
    exact k q ok H1 locs ls hP1 hD1 hS1 hl
theorem c_newB {n : Nat} (hn : n < 100000) (hcells : ce + 1 ≤ R.cells) (hslots : sl + n ≤ R.slots) (hd : decode M.2.2.1 pc = .ok (.newarray .boolean, 2)) (k : ∀ q : Nat, cV l x g M R (ce + 1) (sl + n) F (pc + 2) L (.ref q :: st) (ws ++ [(q, zA g 1 n)])) : cV l x g M R ce sl F pc L (zi (n : Int) :: st) ws := by
  obtain ⟨p, e, s, m, args, below, meth, c, A⟩ := x
  intro ok H locs ls hP hD hS hl
  have hK := ok.2.2.2.2.2.2.1
  refine va_newa (atype := .boolean) (ty := .boolean) (N' := n) (a0 := (n, .inl (fun _ => Int32.ofInt 0))) ok.1 ok.2.1 (ok.2.2.2.2.1 _ ac_b) rfl hK hP hD hS ok.2.2.2.2.2.2.2.1 (fun _ => rfl) ?_ (zclamp (by omega)) (by show n * 1 ≤ 536870912; omega) hcells hslots hd (fun q cA H1 hK1 hP1 hD1 hS1 => ?_)
  · rw [zz0, zlt ⟨by omega, by omega⟩ zin0]; omega
  · have h1 := (hK.2 1 _ rfl).2
    have h2 := (hK1.2 3 (cA, .boolean) rfl).2
    have e1 : cA = g.2.2.2.1 1 := Option.some.inj (Eq.trans (Eq.symm h2) h1)
    subst e1
    exact k q ok H1 locs ls hP1 hD1 hS1 hl
theorem c_newL {n : Nat} (hn : n < 100000) (hcells : ce + 1 ≤ R.cells) (hslots : sl + n ≤ R.slots) (hd : decode M.2.2.1 pc = .ok (.newarray .long, 2)) (k : ∀ q : Nat, cV l x g M R (ce + 1) (sl + n) F (pc + 2) L (.ref q :: st) (ws ++ [(q, zAL g n)])) : cV l x g M R ce sl F pc L (zi (n : Int) :: st) ws := by
  obtain ⟨p, e, s, m, args, below, meth, c, A⟩ := x
  intro ok H locs ls hP hD hS hl
  have hK := ok.2.2.2.2.2.2.1
  refine va_newa (atype := .long) (ty := .long) (N' := n) (a0 := (n, .inr (.inl (fun _ => Int64.ofInt 0)))) ok.1 ok.2.1 (ok.2.2.2.2.1 _ ac_l) rfl hK hP hD hS ok.2.2.2.2.2.2.2.1 (fun _ => rfl) ?_ (zclamp (by omega)) (by show n * 8 ≤ 536870912; omega) hcells hslots hd (fun q cA H1 hK1 hP1 hD1 hS1 => ?_)
  · rw [zz0, zlt ⟨by omega, by omega⟩ zin0]; omega
  · have h1 := (hK.2 2 _ rfl).2
    have h2 := (hK1.2 3 (cA, .long) rfl).2
    have e1 : cA = g.2.2.2.1 2 := Option.some.inj (Eq.trans (Eq.symm h2) h1)
    subst e1
    exact k q ok H1 locs ls hP1 hD1 hS1 hl
theorem c_new {ci N idx : Nat} {C : String} {T : u_T} {ty : Nat → FieldType} (fs : List Value) (hcl : vwCl[ci]? = some (C, T, N)) (hin : ∀ w ∈ u_ws C T N, w ∈ zTB) (hty : ∀ k, k < N → parseFieldDescriptor (T k).2.2.1 = some (ty k)) (hlk : Cond.classLink M.1 idx C ∈ zTB) (hins : Cond.instantiable C N ∈ zTB) (hini : Cond.initialized C ∈ zTB) (hfs : ∀ j, j < N → defaultValue (ty j) = vp_V fs j) (hcells : ce + 1 ≤ R.cells) (hslots : sl + N ≤ R.slots) (hd : decode M.2.2.1 pc = .ok (.new idx, 3)) (k : ∀ q : Nat, cV l x g M R (ce + 1) (sl + N) F (pc + 3) L (.ref q :: st) (ws ++ [(q, .inr (ci, fs))])) : cV l x g M R ce sl F pc L st ws := by
  obtain ⟨p, e, s, m, args, below, meth, c, A⟩ := x
  intro ok H locs ls hP hD hS hl
  exact va_new (ci := ci) (fs := fs) ok.1 ok.2.1 ok.2.2.2.2.1 hin ty hty ok.2.2.2.1 (ok.2.2.2.2.1 _ hlk) (ok.2.2.2.2.1 _ hins) (ok.2.2.2.2.1 _ hini) ok.2.2.2.2.2.2.1 hP hD hS ok.2.2.2.2.2.2.2.1 hcl hfs hcells hslots hd (fun q H1 hP1 hD1 hS1 => k q ok H1 locs ls hP1 hD1 hS1 hl)
theorem c_putF {ci k a idx : Nat} {fs : List Value} {ty : FieldType} {v : Value} (q0 : Nat) (hin2 : cin x) (hf : zfF M.1 idx ci k ty) (he : ws[q0]? = some (a, .inr (ci, fs))) (hn : narrow ty v = v) (hfit : fits ty v = true) (hlen : k < fs.length) (hd : decode M.2.2.1 pc = .ok (.putfield idx, 3)) (kk : cV l x g M R ce sl F (pc + 3) L st (ws.set q0 (a, .inr (ci, fs.set k v)))) : cV l x g M R ce sl F pc L (v :: .ref a :: st) ws := by
  obtain ⟨p, e, s, m, args, below, meth, c, A⟩ := x
  intro ok H locs ls hP hD hS hl
  obtain ⟨C, T, N, ty0, hc, hk, hin, hlink, hty, hnm, hfin, hown2, hpd⟩ := hf
  exact va_putF ok.1 ok.2.1 ok.2.2.2.2.1 hin ty0 hty hnm ok.2.2.2.1 ok.2.2.2.2.2.2.1 hP hD hS q0 he hc k hk (ok.2.2.2.2.1 _ hlink) (fun _ h => h) hfin hin2 hown2 hpd hn hfit hlen hd (fun H1 locs1 hP1 hD1 hS1 => kk ok H1 locs1 ls hP1 hD1 hS1 hl)
theorem c_puti {ci k a idx : Nat} {fs : List Value} {ty : FieldType} {v : Value} (q0 : Nat) (hf : zfp M.1 idx ci k ty) (he : ws[q0]? = some (a, .inr (ci, fs))) (hn : narrow ty v = v) (hfit : fits ty v = true) (hlen : k < fs.length) (hd : decode M.2.2.1 pc = .ok (.putfield idx, 3)) (kk : cV l x g M R ce sl F (pc + 3) L st (ws.set q0 (a, .inr (ci, fs.set k v)))) : cV l x g M R ce sl F pc L (v :: .ref a :: st) ws := by
  obtain ⟨p, e, s, m, args, below, meth, c, A⟩ := x
  intro ok H locs ls hP hD hS hl
  have ok' := ok
  obtain ⟨hx, hb, hml, hown, hts, hr, hK, hA, hlk, hao, ham⟩ := ok
  obtain ⟨C, T, N, ty0, hc, hkN, hin, hlink, hty, hnm, hfin, hpd⟩ := hf
  rcases hlink with hlink | ⟨host, hlink⟩
  · exact va_put hx hb hts hin ty0 hty hnm hown hK hP hD hS q0 he hc k hkN (hts _ hlink) (fun _ h => h) hfin hpd hn hfit hlen hd (fun H1 locs1 hP1 hD1 hS1 => kk ok' H1 locs1 ls hP1 hD1 hS1 hl)
  · exact va_putN (host := host) hx hb hts hin ty0 hty hnm hown hK hP hD hS q0 he hc k hkN (va_Nw.use (by rfl) (hao.2.2.2.2 _ _ _ ham _ hlink)) (fun _ h => h) hfin hpd hn hfit hlen hd (fun H1 locs1 hP1 hD1 hS1 => kk ok' H1 locs1 ls hP1 hD1 hS1 hl)
theorem c_getr {ci k a idx : Nat} {fs : List Value} {v : Value} (q0 : Nat) (hf : zfl M.1 idx ci k) (he : ws[q0]? = some (a, .inr (ci, fs))) (hv : fs[k]? = some v) (hd : decode M.2.2.1 pc = .ok (.getfield idx, 3)) (kk : cV l x g M R ce sl F (pc + 3) L (v :: st) ws) : cV l x g M R ce sl F pc L (.ref a :: st) ws := by
  obtain ⟨p, e, s, m, args, below, meth, c, A⟩ := x
  intro ok H locs ls hP hD hS hl
  have kk' := kk ok H locs ls hP hD hS hl
  obtain ⟨hx, hb, hml, hown, hts, hr, hK, hA, hlk, hao, ham⟩ := ok
  obtain ⟨C, T, N, hc, hk, hin, hlink⟩ := hf
  rcases hlink with hlink | ⟨host, hlink⟩
  · exact va_get hx hb hts hin hown hK hP q0 he hc k hk (hts _ hlink) (fun _ h => h) hv hd kk'
  · exact va_getN (host := host) hx hb hts hin hown hK hP q0 he hc k hk (va_Nw.use (by rfl) (hao.2.2.2.2 _ _ _ ham _ hlink)) (fun _ h => h) hv hd kk'
theorem c_iast {a n : Nat} {f : Nat → Int32} {v : Int} (q0 j : Nat) (he : ws[q0]? = some (a, .inl (g.2.2.2.1 0, n, .inl f))) (hj : j < n) (hn : n < 100000) (hd : decode M.2.2.1 pc = .ok (.iastore, 1)) (kk : cV l x g M R ce sl F (pc + 1) L st (ws.set q0 (a, .inl (g.2.2.2.1 0, n, .inl (upd f j (Int32.ofInt v)))))) : cV l x g M R ce sl F pc L (zi v :: zi (j : Int) :: .ref a :: st) ws := by
  obtain ⟨p, e, s, m, args, below, meth, c, A⟩ := x
  intro ok H locs ls hP hD hS hl
  refine va_iast ok.1 ok.2.1 ok.2.2.2.2.2.2.1 hP hD hS q0 0 he rfl (zvin hj (by omega)) hd (fun H1 locs1 hP1 hD1 hS1 => ?_)
  rw [zclamp (by omega)] at hP1 hD1
  exact kk ok H1 locs1 ls hP1 hD1 hS1 hl
end CROW
