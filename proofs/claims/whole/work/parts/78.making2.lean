/-! constructors: contracts and calls -/
def crm (n mc ms : Nat) : Room := { frames := n, cells := mc, slots := ms, locals := 40 * n }
def cPc (g : zG) (w0 : va_W) (av : List Value) (sz : Nat) : Array Value → State → Prop := va_Pc av (fun U => U.heap.size = sz ∧ va_P (zgD g) vwCl w0 U.heap ∧ va_K (zgD g) vwCl (zty g) U ∧ va_D (fun _ => True) w0 ∧ g.2.2.2.2 (va_A w0 sz) U U.heap)
def cQc (g : zG) (A : Nat → Prop) (Post : va_W → Prop) : Array Value → State → Outcome → State → Prop := fun _ st o t => (∃ w1 : va_W, o = .returned none ∧ Post w1 ∧ va_P (zgD g) vwCl w1 t.heap ∧ va_K (zgD g) vwCl (zty g) t ∧ va_D A w1) ∧ va_F A st t
/-- a constructor's contract: from the world w0 to one with Post, mc cells of ms slots new at most -/
def cC (l : Launch) (g : zG) (M : zM) (n mc ms : Nat) (av : List Value) (w0 : va_W) (Post : va_W → Prop) : Prop := ∀ sz : Nat, Met l M.2.1 (zws M) (crm n mc ms) (cPc g w0 av sz) (cQc g (va_A w0 sz) Post) mc ms (va_A w0 sz)
def cend (x : zX) (g : zG) (Post : va_W → Prop) (mc ms : Nat) : State → Prop := match x with
  | (_, _, s, _, args, below, _, _, A) => MQ below (cQc g A Post) args s mc ms A
theorem cC_of {l : Launch} {g : zG} {M : zM} {n mc ms k : Nat} {av : List Value} {w0 : va_W} {Post : va_W → Prop} {L : List (Nat × Value)} (hM : zmk M k) (hnm : M.2.1.name = "<init>") (hn : (lg_sl av).length ≤ M.2.2.2.1) (hg : zAmOk g) (hL : lv_args 0 av = L) (body : ∀ x : zX, cin x → cV l x g M (crm n mc ms) 0 0 (cend x g Post mc ms) 0 L [] w0) : cC l g M n mc ms av w0 Post := by
  intro sz
  refine Met.ofW (cc := M.2.2.1) (maxL := M.2.2.2.1) (ret := M.2.2.2.2) hM.1 rfl ?_
  intro p e s m args below meth c s₁ B hml hv
  obtain ⟨rfl, hsz, hP, hK, hD0, ham⟩ := hv
  subst hsz
  subst hL
  have hD := hD0.self (sz := s.heap.size)
  have hl := lv_entry av hn
  have hin : meth.name = "<init>" := (name_of_methodNamed B.named B.method).1.trans hnm
  rw [lg_entry_eq]
  have hts := atoms_spec (ws := zws M) B.pre
  exact body (p, e, s, m, _, below, meth, c, va_A w0 s.heap.size) hin ⟨B.exec, B.bytes, hml, by rw [hM.2.1]; exact findClass_of_methodNamed B.named, fun w hw => hts w (List.mem_cons_of_mem _ hw), B.returns, hK, fun q h => Or.inr h, B.notSynchronized, hg, ham⟩ s.heap [] _ hP hD va_S.rf hl
theorem c_vret {l : Launch} {x : zX} {g : zG} {M : zM} {R : Room} {ce sl mc ms : Nat} {pc : Nat} {L : List (Nat × Value)} {ws : va_W} {Post : va_W → Prop} (hr : M.2.2.2.2 = none) (hd : decode M.2.2.1 pc = .ok (.return_, 1)) (h1 : ce ≤ mc) (h2 : sl ≤ ms) (hp : Post ws) : cV l x g M R ce sl (cend x g Post mc ms) pc L [] ws := by
  obtain ⟨p, e, s, m, args, below, meth, c, A⟩ := x
  intro ok H locs ls hP hD hS hl
  obtain ⟨hx, hb, hml, hown, hts, hrt, hK, hA, hlk, hao, ham⟩ := ok
  exact W.widen h1 h2 (W.vret hx hb (hrt.trans hr) (fun t ht hW => ⟨⟨ws, rfl, hp, by rw [ht]; exact hP, va_K.moved hW.alike hK, hD⟩, hS.F ht⟩) hS.2.2 hd hlk)
section CCALL
variable {l : Launch} {p : Program} {e : Env} {s : State} {m : MethodId} {args : Array Value} {below : List Frame} {meth : Method} {c : Code} {A : Nat → Prop} {g : zG} {M : zM} {R : Room} {ce sl mc ms : Nat} {F : State → Prop} {pc : Nat} {L : List (Nat × Value)} {st : List Value} {ws wc wr : va_W} {H : Heap} {locs : List Loc} {ls : Array Slot}
theorem cfree (hD : va_D A wc) (hS : va_S A s.heap H locs) (hA : ∀ q : Nat, s.heap.size ≤ q → A q) : ∀ q, va_A wc H.size q → A q := by
  intro q h
  rcases h with ⟨k, e, h⟩ | h
  · exact hD.2 k (q, e) h
  · exact hA q (Nat.le_trans hS.1 h)
theorem cpre {av : List Value} (ok : zOk (p, e, s, m, args, below, meth, c, A) g M) (hP : va_P (zgD g) vwCl wc H) (hD : va_D A wc) (hS : va_S A s.heap H locs) : FrameBlind (cPc g wc av H.size) ∧ ∀ U : State, U.heap = H → s.WarmedH U.vm → cPc g wc av H.size av.toArray U := by
  obtain ⟨hx, hb, hml, hown, hts, hr, hK, hA, hlk, hao, ham⟩ := ok
  refine ⟨fun a U g' mk q => ?_, fun U hU hW => ?_⟩
  · obtain ⟨q0, q1, qP, qK, qD, qA⟩ := q
    exact ⟨q0, q1, qP, va_K.moved (u := U) (U := U.calling g' mk a) (Vm.Alike.refl U.vm) qK, qD, hao.2.1 _ U _ _ rfl qA⟩
  · refine ⟨rfl, by rw [hU], by rw [hU]; exact hP, va_K.moved hW.alike hK, hD.weaken (fun _ _ _ _ => trivial), ?_⟩
    rw [hU]
    exact hao.1 _ s U H hW (hao.2.2.2.1 A _ s H (cfree hD hS hA) (hao.2.2.1 A s s.heap H (fun a h1 h2 => hS.2.1 a h1 h2) ham))
/-- two lists of cells side by side, behind a call that changed the second alone -/
theorem cjoin {H1 : Heap} {w1 : va_W} (hPr : va_P (zgD g) vwCl wr H) (hDr : va_D A wr) (hap : ∀ (i : Nat) (q : Nat × va_E), wr[i]? = some q → ¬ va_A wc H.size q.1) (hF : ∀ q, va_A wc H.size q → A q) (hk : ∀ q : Nat, q < H.size → ¬ va_A wc H.size q → H1[q]? = H[q]?) (hP1 : va_P (zgD g) vwCl w1 H1) (hD1 : va_D (va_A wc H.size) w1) : va_P (zgD g) vwCl (wr ++ w1) H1 ∧ va_D A (wr ++ w1) := by
  refine ⟨(hPr.kept (fun k q hq => hk q.1 (hPr k q hq).lt (hap k q hq))).app hP1, hDr.app (hD1.weaken (fun k q _ h => hF q.1 h)) (fun i j p q hp hq e => ?_)⟩
  exact hap i p hp (by rw [e]; exact hD1.2 j q hq)
theorem crun {Post : va_W → Prop} {a : Array Value} {st0 rest : List Value} (hr : va_Run p l e R s m args below meth c H locs ce sl mc ms (F0 m pc ls st0) rest (cQc g (va_A wc H.size) Post a) (va_A wc H.size)) (ok : zOk (p, e, s, m, args, below, meth, c, A) g M) (hF : ∀ q, va_A wc H.size q → A q) (hPr : va_P (zgD g) vwCl wr H) (hDr : va_D A wr) (hap : ∀ (i : Nat) (q : Nat × va_E), wr[i]? = some q → ¬ va_A wc H.size q.1) (hS : va_S A s.heap H locs) (hl : lv_has ls M.2.2.2.1 L)
    (k : ∀ w1 : va_W, Post w1 → cV l (p, e, s, m, args, below, meth, c, A) g M R (ce + mc) (sl + ms) F (pc + 3) L rest (wr ++ w1)) : W p l e R s m args below meth c H locs ce sl F (F0 m pc ls st0) := by
  intro T hT X
  obtain ⟨v, st₀, t, T', L1, h0, X', hL, e1, e2, ⟨⟨w1, hv, hq, hP1, hK1, hD1⟩, hz, hk⟩, stp⟩ := hr T hT X
  cases hv
  rw [h0] at hz hk
  rw [← e1] at hP1 hk
  obtain ⟨j1, j2⟩ := cjoin hPr hDr hap hF hk hP1 hD1
  obtain ⟨t2, a1, b1⟩ := k w1 hq ok T'.heap (locs ++ L1) ls j1 j2 ⟨Nat.le_trans hS.1 (by rw [e1]; exact hz), fun q h1 h2 => by rw [hk q (Nat.lt_of_lt_of_le h1 hS.1) (fun z => h2 (hF q z))]; exact hS.2.1 q h1 h2, fun q hq => by
      rcases List.mem_append.mp hq with h | h
      · exact hS.2.2 q h
      · exact hF _ (hL q h)⟩ hl T' rfl X'
  exact ⟨t2, stp t2 a1, b1⟩
end CCALL
theorem c_pick {ws wc : va_W} {isC : List Nat} (hC : isC.map (fun i => ws[i]?) = wc.map some) {k : Nat} {q : Nat × va_E} (hk : wc[k]? = some q) : ∃ i : Nat, isC[k]? = some i ∧ ws[i]? = some q := by
  have h1 : (isC.map (fun i => ws[i]?))[k]? = some (some q) := by rw [hC, List.getElem?_map, hk]; rfl
  rw [List.getElem?_map] at h1
  cases hi : isC[k]? with
  | none => rw [hi] at h1; cases h1
  | some i => rw [hi] at h1; exact ⟨i, rfl, Option.some.inj h1⟩
/-- a constructor called on the world's places isC, the others isR -/
theorem c_callI {l : Launch} {x : zX} {g : zG} {M : zM} {R : Room} {ce sl : Nat} {F : State → Prop} {pc : Nat} {L : List (Nat × Value)} {st : List Value} {ws wc wr : va_W} {r0 : String} {y0 : MethodName} {c0 : ByteArray} {l0 n' mc ms k idx q : Nat} {As st0 : List Value} {Post : va_W → Prop} (isC isR : List Nat) (hc : cC l g (r0, y0, c0, l0, none) n' mc ms (.ref q :: As) wc Post) (hM : zmk (r0, y0, c0, l0, none) k) (hnm : y0.name = "<init>") (hinst : Cond.instanceMethod y0 ∈ zTB) (hlk : zml M.1 idx (r0, y0, c0, l0, none)) (hR : n' + 1 ≤ R.frames ∧ 40 * (n' + 1) ≤ R.locals) (hcs : ce + mc ≤ R.cells ∧ sl + ms ≤ R.slots) (hA : As.length = k) (hst : st0 = As.reverse ++ .ref q :: st) (hw : (st.map fun v => v.category).sum ≤ 8) (hd : decode M.2.2.1 pc = .ok (.invokespecial idx, 3))
    (hC : isC.map (fun i => ws[i]?) = wc.map some) (hRr : isR.map (fun i => ws[i]?) = wr.map some) (hnC : va_nd isC = true) (hnR : va_nd isR = true) (hdis : ∀ i ∈ isR, i ∉ isC)
    (kk : ∀ w1 : va_W, Post w1 → cV l x g M R (ce + mc) (sl + ms) F (pc + 3) L st (wr ++ w1)) : cV l x g M R ce sl F pc L st0 ws := by
  obtain ⟨p, e, s, m, args, below, meth, c, A⟩ := x
  intro ok H locs ls hP hD hS hl
  have ok' := ok
  have hPc : va_P (zgD g) vwCl wc H := fun k q hk => by obtain ⟨i, -, hi⟩ := c_pick hC hk; exact hP i q hi
  have hPr : va_P (zgD g) vwCl wr H := fun k q hk => by obtain ⟨i, -, hi⟩ := c_pick hRr hk; exact hP i q hi
  have hDc := hD.sub isC hnC hC
  have hDr := hD.sub isR hnR hRr
  have hap : ∀ (i : Nat) (q : Nat × va_E), wr[i]? = some q → ¬ va_A wc H.size q.1 := fun i q hq hv => by
    rcases hv with ⟨j, e, hj⟩ | hv
    · obtain ⟨i1, g1, g2⟩ := c_pick hRr hq
      obtain ⟨i2, g3, g4⟩ := c_pick hC hj
      have := hD.1 i1 i2 _ _ g2 g4 rfl
      exact hdis i1 (List.mem_of_getElem? g1) (by rw [this]; exact List.mem_of_getElem? g3)
    · exact absurd (hPr i q hq).lt (Nat.not_lt.mpr hv)
  have hpre := cpre (av := .ref q :: As) ok hPc hDc hS
  obtain ⟨hx, hb, hml, hown, hts, hr, hK, hAA, hlks, hao, ham⟩ := ok
  have hR : (crm n' mc ms).frames + 1 ≤ R.frames ∧ 8 + (l0 + 11) + (crm n' mc ms).locals ≤ R.locals := by
    have : l0 ≤ 21 := hM.2.2.2.2.2
    simp only [crm]
    omega
  subst hst
  refine crun (wc := wc) (wr := wr) (Post := Post) (a := (.ref q :: As : List Value).toArray) (rest := st) ?_ ok' (cfree hDc hS hAA) hPr hDr hap hS hl kk
  rcases hlk with hlk | ⟨host, hlk⟩
  · exact va_runI (As := As) (rest := st) (b := q) ⟨hx, hb, hml, hown, hts⟩ (hc H.size) ⟨callB_of k hts (zgood_M hM) rfl rfl rfl (hts _ hM.2.2.2.2.1) (hts _ hlk) hM.2.2.1 hR, hnm, hts _ hinst⟩ hpre rfl hA hl.1 rfl (lv_room hw) hd hcs
  · exact va_runIN (As := As) (rest := st) (host := host) (b := q) ⟨hx, hb, hml, hown, hts⟩ (hc H.size) ⟨va_cnB k hts (zgood_M hM) rfl rfl rfl (hao.2.2.2.2 _ _ _ ham _ hlk) (hts _ hM.2.2.2.2.1) hM.2.2.1 hR, hnm, hts _ hinst⟩ hpre rfl hA hl.1 rfl (lv_room hw) hd hcs
/-- a constructor called on the last cell -/
theorem c_callL {l : Launch} {x : zX} {g : zG} {M : zM} {R : Room} {ce sl : Nat} {F : State → Prop} {pc : Nat} {L : List (Nat × Value)} {st : List Value} (wr : va_W) {r0 : String} {y0 : MethodName} {c0 : ByteArray} {l0 n' mc ms k idx q : Nat} {e0 : va_E} {As st0 : List Value} {Post : va_W → Prop} (hc : cC l g (r0, y0, c0, l0, none) n' mc ms (.ref q :: As) [(q, e0)] Post) (hM : zmk (r0, y0, c0, l0, none) k) (hnm : y0.name = "<init>") (hinst : Cond.instanceMethod y0 ∈ zTB) (hlk : zml M.1 idx (r0, y0, c0, l0, none)) (hR : n' + 1 ≤ R.frames ∧ 40 * (n' + 1) ≤ R.locals) (hcs : ce + mc ≤ R.cells ∧ sl + ms ≤ R.slots) (hA : As.length = k) (hst : st0 = As.reverse ++ .ref q :: st) (hw : (st.map fun v => v.category).sum ≤ 8) (hd : decode M.2.2.1 pc = .ok (.invokespecial idx, 3))
    (kk : ∀ w1 : va_W, Post w1 → cV l x g M R (ce + mc) (sl + ms) F (pc + 3) L st (wr ++ w1)) : cV l x g M R ce sl F pc L st0 (wr ++ [(q, e0)]) := by
  obtain ⟨p, e, s, m, args, below, meth, c, A⟩ := x
  intro ok H locs ls hP hD hS hl
  have ok' := ok
  have hlast : (wr ++ [(q, e0)])[wr.length]? = some (q, e0) := by rw [List.getElem?_append_right (Nat.le_refl _), Nat.sub_self]; rfl
  have hleft : ∀ (i : Nat) (z : Nat × va_E), wr[i]? = some z → (wr ++ [(q, e0)])[i]? = some z := fun i z hz => by rw [List.getElem?_append_left (List.getElem?_eq_some_iff.mp hz).1]; exact hz
  have hone : ∀ (i : Nat) (z : Nat × va_E), ([(q, e0)] : va_W)[i]? = some z → z = (q, e0) := fun i z hz => by
    have := List.mem_of_getElem? hz
    exact List.mem_singleton.mp this
  have hPc : va_P (zgD g) vwCl [(q, e0)] H := fun k z hk => by rw [hone k z hk]; exact hP _ _ hlast
  have hPr : va_P (zgD g) vwCl wr H := fun k z hk => hP k z (hleft k z hk)
  have hDc : va_D A [(q, e0)] := ⟨fun i j a b hi hj _ => by
    have h1 : i < 1 := (List.getElem?_eq_some_iff.mp hi).1
    have h2 : j < 1 := (List.getElem?_eq_some_iff.mp hj).1
    omega, fun k z hk => by rw [hone k z hk]; exact hD.2 _ _ hlast⟩
  have hDr : va_D A wr := ⟨fun i j a b hi hj e => hD.1 i j a b (hleft i a hi) (hleft j b hj) e, fun k z hk => hD.2 k z (hleft k z hk)⟩
  have hap : ∀ (i : Nat) (z : Nat × va_E), wr[i]? = some z → ¬ va_A [(q, e0)] H.size z.1 := fun i z hz hv => by
    rcases hv with ⟨j, e, hj⟩ | hv
    · have h1 := hone j _ hj
      have h2 := hD.1 i wr.length z (q, e0) (hleft i z hz) hlast (Prod.mk.inj h1).1
      have h3 := (List.getElem?_eq_some_iff.mp hz).1
      omega
    · exact absurd (hPr i z hz).lt (Nat.not_lt.mpr hv)
  have hpre := cpre (av := .ref q :: As) ok hPc hDc hS
  obtain ⟨hx, hb, hml, hown, hts, hr, hK, hAA, hlks, hao, ham⟩ := ok
  have hR : (crm n' mc ms).frames + 1 ≤ R.frames ∧ 8 + (l0 + 11) + (crm n' mc ms).locals ≤ R.locals := by
    have : l0 ≤ 21 := hM.2.2.2.2.2
    simp only [crm]
    omega
  subst hst
  refine crun (wc := [(q, e0)]) (wr := wr) (Post := Post) (a := (.ref q :: As : List Value).toArray) (rest := st) ?_ ok' (cfree hDc hS hAA) hPr hDr hap hS hl kk
  rcases hlk with hlk | ⟨host, hlk⟩
  · exact va_runI (As := As) (rest := st) (b := q) ⟨hx, hb, hml, hown, hts⟩ (hc H.size) ⟨callB_of k hts (zgood_M hM) rfl rfl rfl (hts _ hM.2.2.2.2.1) (hts _ hlk) hM.2.2.1 hR, hnm, hts _ hinst⟩ hpre rfl hA hl.1 rfl (lv_room hw) hd hcs
  · exact va_runIN (As := As) (rest := st) (host := host) (b := q) ⟨hx, hb, hml, hown, hts⟩ (hc H.size) ⟨va_cnB k hts (zgood_M hM) rfl rfl rfl (hao.2.2.2.2 _ _ _ ham _ hlk) (hts _ hM.2.2.2.2.1) hM.2.2.1 hR, hnm, hts _ hinst⟩ hpre rfl hA hl.1 rfl (lv_room hw) hd hcs
/-- a method of the class's own 37 places, called where they are all made -/
theorem c_callK {l : Launch} {x : zX} {g : zG} {M : zM} {R : Room} {ce sl : Nat} {F : State → Prop} {pc : Nat} {L : List (Nat × Value)} {st : List Value} {ws : va_W} {ad : Nat → Nat} {d : zD} {M' : zM} {n' idx q ci N : Nat} {fs : List (Option Nat)} {T : u_T} {P : zD → Prop} (isC : List Nat) (hc : zCK l (gA g ad) M' n' [zr (gA g ad) q] d (fun r d' => r = none ∧ P d')) (hM : zmk M' 0) (hi : zmi M') (hlk : Cond.methodLink M.1 idx M'.2.1 ∈ zTB) (hR : n' + 1 ≤ R.frames ∧ 40 * (n' + 1) ≤ R.locals) (hcs : ce ≤ R.cells ∧ sl ≤ R.slots) (hq : q < 37) (hsh : zsh q = .inl (ci, fs)) (hcl : vwCl[ci]? = some (M'.2.1.cls, T, N)) (hw : (st.map fun v => v.category).sum ≤ 8) (hd : decode M.2.2.1 pc = .ok (.invokevirtual idx, 3))
    (hC : isC.map (fun i => ws[i]?) = (zwK (gA g ad) d).map some) (hnC : va_nd isC = true) (kk : ∀ d' : zD, P d' → cV l x g M R ce sl F (pc + 3) L st (zwK (gA g ad) d')) : cV l x g M R ce sl F pc L (.ref (ad q) :: st) ws := by
  obtain ⟨p, e, s, m, args, below, meth, c, A⟩ := x
  intro ok H locs ls hP hD hS hl
  have ok' := ok
  have hPc : va_P (zgD (gA g ad)) vwCl (zwK (gA g ad) d) H := fun k q hk => by obtain ⟨i, -, hi⟩ := c_pick hC hk; exact hP i q hi
  have hDc := hD.sub isC hnC hC
  have hpre := zpreK (e := e) (below := below) (g := gA g ad) (M := M) (av := [zr (gA g ad) q]) ok hPc hDc hS
  obtain ⟨hx, hb, hml, hown, hts, hr, hK, hAA, hlks, hao, ham⟩ := ok
  have hrec := va_recv (D := zgD (gA g ad)) hK hPc hcl (show (zwK (gA g ad) d)[q]? = some ((gA g ad).2.2.1 q, .inr (ci, zfv (gA g ad) (d q) 0 fs)) by rw [zw_atK (gA g ad) d hq, zcell_o (gA g ad) d hsh])
  have hR : (zrm n').frames + 1 ≤ R.frames ∧ 8 + (M'.2.2.2.1 + 11) + (zrm n').locals ≤ R.locals := by
    have := hM.2.2.2.2.2
    simp only [zrm]
    omega
  have hF := zfreeK (g := gA g ad) hDc hS hAA
  have hrun := va_runV (e := e) (below := below) (meth := meth) (locs := locs) (g := F0 m pc ls (.ref (ad q) :: st)) (As := []) (rest := st) (C := M'.2.1.cls) (b := ad q) ⟨hx, hb, hml, hown, hts⟩ (hc H.size) (cwV 0 hts (zgood (fun w hw => by
      rcases List.mem_append.mp hw with hw | hw
      · simp only [List.mem_cons, List.not_mem_nil, or_false] at hw
        rcases hw with rfl | rfl | rfl | rfl
        · exact hlk
        · exact hi.1
        · exact hi.2
        · exact hM.2.2.2.2.1
      · exact (zgood_M hM w hw).1)) rfl rfl rfl ⟨rfl, hM.2.2.1⟩ hR) ⟨hpre.1, hrec, hpre.2⟩ rfl rfl hl.1 rfl (lv_room hw) hd hcs
  intro T0 hT X
  obtain ⟨v, st₀, t, T', L1, h0, X', hL, e1, e2, ⟨⟨r, d', hv, ⟨hr0, hp⟩, hP1, hK1, hD1⟩, hz, hk⟩, stp⟩ := hrun T0 hT X
  subst hr0
  cases hv
  rw [h0] at hz hk
  obtain ⟨t2, a1, b1⟩ := kk d' hp ok' T'.heap (locs ++ L1) ls (by rw [e1]; exact hP1) (hD1.weaken (fun k q _ h => hF q.1 h)) ⟨Nat.le_trans hS.1 (by rw [e1]; exact hz), fun q h1 h2 => by rw [e1, hk q (Nat.lt_of_lt_of_le h1 hS.1) (fun z => h2 (hF q z))]; exact hS.2.1 q h1 h2, fun q hq => by
      rcases List.mem_append.mp hq with h | h
      · exact hS.2.2 q h
      · exact hF _ (hL q h)⟩ hl T' rfl X'
  exact ⟨t2, stp t2 a1, b1⟩
