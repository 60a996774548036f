/-! calls with any end; methods that throw, and their catching -/
def yrm (n : Nat) : Room := { frames := n, cells := 1, slots := 6, locals := 40 * n }
section YCALL
variable {l : Launch} {p : Program} {e : Env} {s : State} {m : MethodId} {args : Array Value} {below : List Frame} {meth : Method} {c : Code} {A : Nat → Prop} {g : zG} {M : zM} {R : Room} {ce sl mc ms : Nat} {F : State → Prop} {pc : Nat} {L : List (Nat × Value)} {st : List Value} {d : zD} {H : Heap} {locs : List Loc} {ls : Array Slot}
theorem yrun {Q' : Option Value → zD → Prop} {a : Array Value} {st0 rest : List Value} (hr : va_Run p l e R s m args below meth c H locs ce sl mc ms (F0 m pc ls st0) rest (zQc g (va_A (zw g d) H.size) Q' a) (va_A (zw g d) H.size)) (ok : zOk (p, e, s, m, args, below, meth, c, A) g M) (hD : va_D A (zw g d)) (hS : va_S A s.heap H locs) (hl : lv_has ls M.2.2.2.1 L)
    (k : ∀ (r : Option Value) (d' : zD), Q' r d' → yV l (p, e, s, m, args, below, meth, c, A) g M R (ce + mc) (sl + ms) F (pc + 3) L (r.toList ++ rest) d') : W p l e R s m args below meth c H locs ce sl F (F0 m pc ls st0) := by
  have hA : ∀ q : Nat, s.heap.size ≤ q → A q := ok.2.2.2.2.2.2.2.1
  have hF := zfree hD hS hA
  intro T hT X
  obtain ⟨v, st₀, t, T', L1, h0, X', hL, e1, e2, ⟨⟨r, d', hv, hq, hP1, hK1, hD1⟩, hz, hk⟩, stp⟩ := hr T hT X
  cases hv
  rw [h0] at hz hk
  obtain ⟨t2, a1, b1⟩ := k _ d' hq ok T'.heap (locs ++ L1) ls (by rw [e1]; exact hP1) (hD1.weaken (fun k q _ h => hF q.1 h)) ⟨Nat.le_trans hS.1 (by rw [e1]; exact hz), fun q h1 h2 => by rw [e1, hk q (Nat.lt_of_lt_of_le h1 hS.1) (fun z => h2 (hF q z))]; exact hS.2.1 q h1 h2, fun q hq => by
      rcases List.mem_append.mp hq with h | h
      · exact hS.2.2 q h
      · exact hF _ (hL q h)⟩ hl T' rfl X'
  exact ⟨t2, stp t2 a1, b1⟩
end YCALL
section YCROW
variable {l : Launch} {x : zX} {g : zG} {M : zM} {R : Room} {ce sl : Nat} {F : State → Prop} {pc : Nat} {L : List (Nat × Value)} {st : List Value} {d : zD}
/-- a call of an object's method -/
theorem y_cv {M' : zM} {n' idx q ci k N : Nat} {fs : List (Option Nat)} {T : u_T} {As st0 : List Value} {Q' : Option Value → zD → Prop} (hc : zC l g M' n' (zr g q :: As) d Q') (hM : zmk M' k) (hi : zmi M') (hlk : zml M.1 idx M') (hR : n' + 1 ≤ R.frames ∧ 40 * (n' + 1) ≤ R.locals) (hcs : ce ≤ R.cells ∧ sl ≤ R.slots) (hq : q < zN) (hsh : zsh q = .inl (ci, fs)) (hcl : vwCl[ci]? = some (M'.2.1.cls, T, N)) (hA : As.length = k) (hst : st0 = As.reverse ++ zr g q :: st) (hw : (st.map fun v => v.category).sum ≤ 8) (hd : decode M.2.2.1 pc = .ok (.invokevirtual idx, 3))
    (kk : ∀ (r : Option Value) (d' : zD), Q' r d' → yV l x g M R ce sl F (pc + 3) L (r.toList ++ st) d') : yV l x g M R ce sl F pc L st0 d := by
  obtain ⟨p, e, s, m, args, below, meth, c, A⟩ := x
  intro ok H locs ls hP hD hS hl
  have ok' := ok
  have hpre := zpre (av := zr g q :: As) ok hP hD hS
  obtain ⟨hx, hb, hml, hown, hts, hr, hK, hAA, hlks, hao, ham⟩ := ok
  have hrec := va_recv hK hP hcl (show (zw g d)[q]? = some (g.2.2.1 q, .inr (ci, zfv g (d q) 0 fs)) by rw [zw_at g d hq, zcell_o g d hsh])
  have hR : (zrm n').frames + 1 ≤ R.frames ∧ 8 + (M'.2.2.2.1 + 11) + (zrm n').locals ≤ R.locals := by
    have := hM.2.2.2.2.2
    simp only [zrm]
    omega
  subst hst
  refine yrun (mc := 0) (ms := 0) (Q' := Q') (a := (zr g q :: As).toArray) (rest := st) ?_ ok' hD hS hl kk
  rcases hlk with hlk | ⟨host, hlk⟩
  · exact va_runV (As := As) (rest := st) (C := M'.2.1.cls) (b := g.2.2.1 q) ⟨hx, hb, hml, hown, hts⟩ (hc H.size) (cwV k hts (zgood (fun w hw => by
      rcases List.mem_append.mp hw with hw | hw
      · simp only [List.mem_cons, List.not_mem_nil, or_false] at hw
        rcases hw with rfl | rfl | rfl | rfl
        · exact hlk
        · exact hi.1
        · exact hi.2
        · exact hM.2.2.2.2.1
      · exact (zgood_M hM w hw).1)) rfl rfl rfl ⟨rfl, hM.2.2.1⟩ hR) ⟨hpre.1, hrec, hpre.2⟩ rfl hA hl.1 rfl (lv_room hw) hd hcs
  · exact va_runVN (As := As) (rest := st) (C := M'.2.1.cls) (host := host) (b := g.2.2.1 q) ⟨hx, hb, hml, hown, hts⟩ (hc H.size) ⟨va_cnB k hts (zgood_M hM) rfl rfl rfl (hao.2.2.2.2 _ _ _ ham _ hlk) (hts _ hM.2.2.2.2.1) hM.2.2.1 hR, hts _ hi.1, hts _ hi.2⟩ ⟨hpre.1, hrec, hpre.2⟩ rfl hA hl.1 rfl (lv_room hw) hd hcs
/-- a call of a static method -/
theorem y_cs {M' : zM} {n' idx k : Nat} {As st0 : List Value} {Q' : Option Value → zD → Prop} (hc : zC l g M' n' As d Q') (hM : zmk M' k) (hi : zms M') (hlk : zml M.1 idx M') (hR : n' + 1 ≤ R.frames ∧ 40 * (n' + 1) ≤ R.locals) (hcs : ce ≤ R.cells ∧ sl ≤ R.slots) (hA : As.length = k) (hst : st0 = As.reverse ++ st) (hw : (st.map fun v => v.category).sum ≤ 8) (hd : decode M.2.2.1 pc = .ok (.invokestatic idx, 3))
    (kk : ∀ (r : Option Value) (d' : zD), Q' r d' → yV l x g M R ce sl F (pc + 3) L (r.toList ++ st) d') : yV l x g M R ce sl F pc L st0 d := by
  obtain ⟨p, e, s, m, args, below, meth, c, A⟩ := x
  intro ok H locs ls hP hD hS hl
  have ok' := ok
  have hpre := zpre (av := As) ok hP hD hS
  obtain ⟨hx, hb, hml, hown, hts, hr, hK, hAA, hlks, hao, ham⟩ := ok
  have hR : (zrm n').frames + 1 ≤ R.frames ∧ 8 + (M'.2.2.2.1 + 11) + (zrm n').locals ≤ R.locals := by
    have := hM.2.2.2.2.2
    simp only [zrm]
    omega
  subst hst
  refine yrun (mc := 0) (ms := 0) (Q' := Q') (a := As.toArray) (rest := st) ?_ ok' hD hS hl kk
  rcases hlk with hlk | ⟨host, hlk⟩
  · exact va_runS (As := As) (rest := st) ⟨hx, hb, hml, hown, hts⟩ (hc H.size) ⟨callB_of k hts (zgood_M hM) rfl rfl rfl (hts _ hM.2.2.2.2.1) (hts _ hlk) hM.2.2.1 hR, hts _ hi⟩ hpre rfl hA hl.1 rfl (lv_room hw) hd hcs
  · exact va_runSN (As := As) (rest := st) (host := host) ⟨hx, hb, hml, hown, hts⟩ (hc H.size) ⟨va_cnB k hts (zgood_M hM) rfl rfl rfl (hao.2.2.2.2 _ _ _ ham _ hlk) (hts _ hM.2.2.2.2.1) hM.2.2.1 hR, hts _ hi, trivial⟩ hpre rfl hA hl.1 rfl (lv_room hw) hd hcs
theorem y_widen {ce' sl' : Nat} (h1 : ce ≤ ce') (h2 : sl ≤ sl') (k : yV l x g M R ce' sl' F pc L st d) : yV l x g M R ce sl F pc L st d := by
  obtain ⟨p, e, s, m, args, below, meth, c, A⟩ := x
  intro ok H locs ls hP hD hS hl
  exact W.widen h1 h2 (k ok H locs ls hP hD hS hl)
theorem y_astores {i q : Nat} {L' : List (Nat × Value)} (hd : decode M.2.2.1 pc = .ok (.astore i, 2)) (hn : i < M.2.2.2.1) (hu : zup L = true) (hL : zset L i (zs q) = L') (k : yV l x g M R ce sl F (pc + 2) L' st d) : yV l x g M R ce sl F pc L (zs q :: st) d := by
  obtain ⟨p, e, s, m, args, below, meth, c, A⟩ := x
  intro ok H locs ls hP hD hS hl
  subst hL
  exact lv_astore ok.1 ok.2.1 hd hl hn rfl (fun ls' hl' => k ok H locs ls' hP hD hS (zset_has hu hl'))
/-- two equal numbers: the branch is taken -/
theorem y_icmp_same {a : Int} {off : Int} (t : Nat) (hd : decode M.2.2.1 pc = .ok (.if_icmp .eq off, 3)) (ht : (pc : Int) + off = (t : Int)) (kt : yV l x g M R ce sl F t L st d) : yV l x g M R ce sl F pc L (zi a :: zi a :: st) d := by
  obtain ⟨p, e, s, m, args, below, meth, c, A⟩ := x
  intro ok H locs ls hP hD hS hl
  exact lv_icmp_eq ok.1 ok.2.1 hd ht (fun _ => kt ok H locs ls hP hD hS hl) (fun hc => absurd rfl hc)
end YCROW
/-! what is thrown -/
def xIdx : List Nat := [143, 163, 165, 170]
def xTxt : List String := ["no such motion", "no such thing of a motion", "no such voter or clause", "no such voter or form"]
def nBX : List Cond := (xAt RX7 145).filter (fun w => !goodWord w)
def zCD : Cond → Bool
  | .castable .. => true
  | .declares _ => true
  | _ => false
theorem nBX_cd : ∀ w ∈ nBX, zCD w = true := by decide +kernel
theorem nBX_tb : ∀ w ∈ nBX, w ∈ lw_tbl := by decide +kernel
theorem zCD_on {w : Cond} (h : zCD w = true) : w.onTables = true := by
  cases w <;> first | rfl | cases h
theorem xa_in : ∀ w ∈ (xAt RX7 145).filter goodWord, w ∈ lw_tbl := by decide +kernel
theorem xa_ot : ∀ w ∈ Cond.classLink RX7 141 xE :: Cond.initialized xE :: xAt RX7 145, vx_ot w = true := by decide +kernel
theorem xc_141 : Cond.classLink RX7 141 xE ∈ zTB := zTB_in 953 (by decide +kernel) rfl
theorem xi_E : Cond.initialized xE ∈ zTB := zTB_in 151 (by decide +kernel) rfl
theorem xc_13 : Cond.classLink RL 13 xE ∈ zTB := zTB_in 948 (by decide +kernel) rfl
theorem x_cast : Cond.castable xE xE ∈ nBX := by decide +kernel
/-- what the ambient facts say for a throw -/
def zThr (g : zG) (aX : Nat → Nat) : Prop := ∀ (A : Nat → Prop) (U : State) (H : Heap), g.2.2.2.2 A U H → (∀ w ∈ nBX, va_Nw w U) ∧ vx_Zq Bundle.tN "UNASSIGNED_STACK" Bundle.steD A U H ∧ vx_Zq Bundle.tN "SUPPRESSED_SENTINEL" Bundle.listD A U H ∧ ∀ i, i < 4 → vk_R RX7 (xIdx.getD i 0) (xTxt.getD i "") (aX i) U
def yXC (g : zG) (d : zD) (b : Bool) (A : Nat → Prop) : String → State → State → Prop := fun E st t => (E = xE ∧ b = false ∧ va_P (zgD g) vwCl (zw g d) t.heap ∧ va_K (zgD g) vwCl (zty g) t ∧ va_D A (zw g d)) ∧ va_F A st t
/-- a method that answers v and changes nothing, or throws where b is false -/
def yT (l : Launch) (g : zG) (M : zM) (n : Nat) (av : List Value) (d : zD) (b : Bool) (v : Int) : Prop := ∀ sz : Nat, vx_Met l M.2.1 (zws M) (yrm n) (zPc g d av sz) (zQc g (va_A (zw g d) sz) (fun r d' => b = true ∧ r = some (zi v) ∧ d' = d)) (yXC g d b (va_A (zw g d) sz)) 1 6 (va_A (zw g d) sz)
def yend (x : zX) (g : zG) (d : zD) (b : Bool) (v : Int) : State → Prop := match x with
  | (_, _, s, _, args, below, _, _, A) => vx_MQ below (zQc g A (fun r d' => b = true ∧ r = some (zi v) ∧ d' = d)) (yXC g d b A) args s 1 6 A
def ynt (x : zX) : Prop := match x with
  | (_, _, _, _, _, _, _, c, _) => ∀ y ∈ c.exceptionTable.toList, False
theorem yT_of {l : Launch} {g : zG} {M : zM} {n : Nat} {av : List Value} {d : zD} {b : Bool} {v : Int} {k : Nat} {L : List (Nat × Value)} (hM : zmk M k) (hn : (lg_sl av).length ≤ M.2.2.2.1) (hg : zAmOk g) (hL : lv_args 0 av = L) (body : ∀ x : zX, ynt x → yV l x g M (yrm n) 0 0 (yend x g d b v) 0 L [] d) : yT l g M n av d b v := by
  intro sz
  refine vx_ofW (cc := M.2.2.1) (maxL := M.2.2.2.1) (ret := M.2.2.2.2) hM.1 rfl ?_
  intro p e s m args below meth c s₁ B hml hnt hv
  obtain ⟨rfl, hsz, hP, hK, hD0, ham⟩ := hv
  subst hsz
  subst hL
  have hD := hD0.self (sz := s.heap.size)
  have hl := lv_entry av hn
  rw [lg_entry_eq]
  have hts := atoms_spec (ws := zws M) B.pre
  exact body (p, e, s, m, _, below, meth, c, va_A (zw g d) s.heap.size) hnt ⟨B.exec, B.bytes, hml, by rw [hM.2.1]; exact findClass_of_methodNamed B.named, fun w hw => hts w (List.mem_cons_of_mem _ hw), B.returns, hK, fun q h => Or.inr h, B.notSynchronized, hg, ham⟩ s.heap [] _ hP hD va_S.rf hl
theorem y_iretx {l : Launch} {x : zX} {g : zG} {M : zM} {n : Nat} {pc : Nat} {L : List (Nat × Value)} {d : zD} {b : Bool} {v u : Int} (hr : M.2.2.2.2 = some .int) (hb : b = true) (hu : u = v) (hd : decode M.2.2.1 pc = .ok (.ireturn, 1)) : yV l x g M (yrm n) 0 0 (yend x g d b v) pc L [zi u] d := by
  subst hu
  obtain ⟨p, e, s, m, args, below, meth, c, A⟩ := x
  intro ok H locs ls hP hD hS hl
  obtain ⟨hx, hb2, hml, hown, hts, hrt, hK, hA, hlk, hao, ham⟩ := ok
  exact vx_ret (W.widen (k := 1) (n := 6) (by decide) (by decide) (W.iret (v := Int32.ofInt u) hx hb2 (hrt.trans hr) (fun t ht hW => ⟨⟨_, d, rfl, ⟨hb, rfl, rfl⟩, by rw [ht]; exact hP, va_K.moved hW.alike hK, hD⟩, hS.F ht⟩) hS.2.2 hd hlk))
theorem y_throw {l : Launch} {x : zX} {g : zG} {M : zM} {n : Nat} {pc : Nat} {L : List (Nat × Value)} {d : zD} {b : Bool} {v : Int} {aX : Nat → Nat} {is : Nat} (hth : zThr g aX) (hl0 : l.stackTraces = false) (hnt : ynt x) (hb : b = false) (i : Nat) (hi : i < 4) (his : xIdx.getD i 0 = is) (hMo : M.1 = RX7) (hn : 6 ≤ n)
    (d0 : decode M.2.2.1 pc = .ok (.new 141, 3)) (d3 : decode M.2.2.1 (pc + 3) = .ok (.dup, 1)) (d4 : decode M.2.2.1 (pc + 4) = .ok (.ldc is, 2)) (d6 : decode M.2.2.1 (pc + 6) = .ok (.invokespecial 145, 3)) (d9 : decode M.2.2.1 (pc + 9) = .ok (.athrow, 1)) : yV l x g M (yrm n) 0 0 (yend x g d b v) pc L [] d := by
  obtain ⟨p, e, s, m, args, below, meth, c, A⟩ := x
  intro ok H locs ls hP hD hS hl
  obtain ⟨hx, hb2, hml, hown, hts, hrt, hK, hA, hlk, hao, ham⟩ := ok
  obtain ⟨h1, hU, hN, hst⟩ := hth A s s.heap ham
  have hs := hst i hi
  rw [his] at hs
  refine x_make (own := RX7) (A := A) hx hb2 hl0 (by rw [← hMo]; exact hown) (hts _ xc_141) (hts _ xi_E) hs
    (vx_hat (B := nBX) (fun w hw => hts w (zTB_of (xa_in w hw) (List.mem_filter.mp hw).2)) (fun w hw => hw) (fun w hw => va_Nw.use (zCD_on (nBX_cd w hw)) (h1 w hw)))
    xa_ot hU hN hS (hl.1.trans hml.symm) d0 d3 d4 d6 (show 2 + 3 < n by omega) (show 0 + (13 * (2 + 1) + 43) ≤ 40 * n by omega) (Nat.le_refl _) (Nat.le_refl _) (fun q H1 ce f1 f2 hq hv hcl => ?_)
  exact vx_athrow hx hb2 d9 (vx_out (fun y hy => (hnt y hy).elim) hlk hq hv hcl
    (fun t ht hvm => ⟨⟨rfl, hb, by rw [ht]; exact hP.kept (fun k q hk => f2 q.1 (hP k q hk).lt), va_K.moved hvm hK, hD⟩, by rw [ht]; exact Nat.le_trans hS.1 f1, fun q h1 h2 => by rw [ht, f2 q (Nat.lt_of_lt_of_le h1 hS.1)]; exact hS.2.1 q h1 h2⟩)
    hS.2.2 (Nat.le_refl _) (Nat.le_refl _))
