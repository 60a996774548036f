/-! calls: what a method is by the tables, how it is reached, and the row of a call -/
def zmk (M : zM) (k : Nat) : Prop := plainName M.2.1.cls = true ∧ M.1 = M.2.1.cls ∧ (M.2.1.cls ≠ "java/lang/invoke/MethodHandle" ∧ M.2.1.cls ≠ "java/lang/invoke/VarHandle" ∧ (parseMethodDescriptor M.2.1.desc).map (fun d => d.parameters.length) = some k) ∧
  Cond.code M.2.1 M.2.2.1 M.2.2.2.1 M.2.2.2.2 ∈ zTB ∧ Cond.initialized M.2.1.cls ∈ zTB ∧ M.2.2.2.1 ≤ 21
def zmi (M : zM) : Prop := Cond.instanceMethod M.2.1 ∈ zTB ∧ Cond.selects M.2.1.cls M.2.1 M.2.1 ∈ zTB
def zms (M : zM) : Prop := Cond.static M.2.1 ∈ zTB
def zml (own : String) (idx : Nat) (M : zM) : Prop := Cond.methodLink own idx M.2.1 ∈ zTB ∨ ∃ host : String, Cond.methodLinkNest own idx M.2.1 host ∈ zNW
theorem zgood {ws : List Cond} (h : ∀ w ∈ ws, w ∈ zTB) : GoodIn zTB ws := fun w hw => ⟨h w hw, good_of_word (List.mem_filter.mp (h w hw)).2⟩
theorem zgood_M {M : zM} {k : Nat} (h : zmk M k) : GoodIn zTB (zws M) := zgood (fun w hw => by
  rcases List.mem_cons.mp hw with rfl | hw
  · exact h.2.2.2.1
  · exact hw)
theorem zC.of {l : Launch} {g : zG} {M : zM} {n : Nat} {av : List Value} {d : zD} {Q : Option Value → zD → Prop} {k : Nat} (hM : zmk M k) (hn : (lg_sl av).length ≤ M.2.2.2.1) (hg : zAmOk g) (body : ∀ x : zX, zV l x g M n Q 0 (lv_args 0 av) [] d) : zC l g M n av d Q := by
  intro sz
  refine Met.ofW (cc := M.2.2.1) (maxL := M.2.2.2.1) (ret := M.2.2.2.2) hM.1 rfl ?_
  intro p e s m args below meth c s₁ B hml hv
  obtain ⟨rfl, hsz, hP, hK, hD0, ham⟩ := hv
  subst hsz
  have hD := hD0.self (sz := s.heap.size)
  have hl := lv_entry av hn
  rw [lg_entry_eq]
  have hts := atoms_spec (ws := zws M) B.pre
  exact body (p, e, s, m, _, below, meth, c, va_A (zw g d) s.heap.size) ⟨B.exec, B.bytes, hml, by rw [hM.2.1]; exact findClass_of_methodNamed B.named, fun w hw => hts w (List.mem_cons_of_mem _ hw), B.returns, hK, fun q h => Or.inr h, B.notSynchronized, hg, ham⟩ s.heap [] _ hP hD va_S.rf hl
section ZCALL
variable {l : Launch} {p : Program} {e : Env} {s : State} {m : MethodId} {args : Array Value} {below : List Frame} {meth : Method} {c : Code} {A : Nat → Prop} {g : zG} {M : zM} {n : Nat} {Q : Option Value → zD → Prop} {pc : Nat} {L : List (Nat × Value)} {st : List Value} {d : zD} {H : Heap} {locs : List Loc} {ls : Array Slot}
theorem zfree (hD : va_D A (zw g d)) (hS : va_S A s.heap H locs) (hA : ∀ q : Nat, s.heap.size ≤ q → A q) : ∀ q, va_A (zw g d) H.size q → A q := by
  intro q h
  rcases h with ⟨k, e, h⟩ | h
  · exact hD.2 k (q, e) h
  · exact hA q (Nat.le_trans hS.1 h)
theorem zpre {av : List Value} (ok : zOk (p, e, s, m, args, below, meth, c, A) g M) (hP : va_P (zgD g) vwCl (zw g d) H) (hD : va_D A (zw g d)) (hS : va_S A s.heap H locs) : FrameBlind (zPc g d av H.size) ∧ ∀ U : State, U.heap = H → s.WarmedH U.vm → zPc g d av H.size av.toArray U := by
  obtain ⟨hx, hb, hml, hown, hts, hr, hK, hA, hlk, hao, ham⟩ := ok
  refine ⟨fun a U g' mk q => ?_, fun U hU hW => ?_⟩
  · obtain ⟨q0, q1, qP, qK, qD, qA⟩ := q
    exact ⟨q0, q1, qP, va_K.moved (u := U) (U := U.calling g' mk a) (Vm.Alike.refl U.vm) qK, qD, hao.2.1 _ U _ _ rfl qA⟩
  · refine ⟨rfl, by rw [hU], by rw [hU]; exact hP, va_K.moved hW.alike hK, hD.weaken (fun _ _ _ _ => trivial), ?_⟩
    rw [hU]
    exact hao.1 _ s U H hW (hao.2.2.2.1 A _ s H (zfree hD hS hA) (hao.2.2.1 A s s.heap H (fun a h1 h2 => hS.2.1 a h1 h2) ham))
theorem zrun {Q' : Option Value → zD → Prop} {a : Array Value} {st0 rest : List Value} (hr : va_Run p l e (zrm n) s m args below meth c H locs 0 0 0 0 (F0 m pc ls st0) rest (zQc g (va_A (zw g d) H.size) Q' a) (va_A (zw g d) H.size)) (ok : zOk (p, e, s, m, args, below, meth, c, A) g M) (hD : va_D A (zw g d)) (hS : va_S A s.heap H locs) (hl : lv_has ls M.2.2.2.1 L)
    (k : ∀ (r : Option Value) (d' : zD), Q' r d' → zV l (p, e, s, m, args, below, meth, c, A) g M n Q (pc + 3) L (r.toList ++ rest) d') : W p l e (zrm n) s m args below meth c H locs 0 0 (MQ below (zQc g A Q) args s 0 0 A) (F0 m pc ls st0) := by
  have hA : ∀ q : Nat, s.heap.size ≤ q → A q := ok.2.2.2.2.2.2.2.1
  have hF := zfree hD hS hA
  intro T hT X
  obtain ⟨v, st₀, t, T', L1, h0, X', hL, e1, e2, ⟨⟨r, d', hv, hq, hP1, hK1, hD1⟩, hz, hk⟩, stp⟩ := hr T hT X
  cases hv
  rw [h0] at hz hk
  obtain ⟨t2, a1, b1⟩ := k _ d' hq ok T'.heap (locs ++ L1) ls (by rw [e1]; exact hP1) (hD1.weaken (fun k q _ h => hF q.1 h)) ⟨Nat.le_trans hS.1 (by rw [e1]; exact hz), fun q h1 h2 => by rw [e1, hk q (Nat.lt_of_lt_of_le h1 hS.1) (fun z => h2 (hF q z))]; exact hS.2.1 q h1 h2, fun q hq => by
      rcases List.mem_append.mp hq with h | h
      · exact hS.2.2 q h
      · exact hF _ (hL q h)⟩ hl T' rfl X'
  exact ⟨t2, stp t2 a1, b1⟩
end ZCALL
section ZCROW
variable {l : Launch} {x : zX} {g : zG} {M : zM} {n : Nat} {Q : Option Value → zD → Prop} {pc : Nat} {L : List (Nat × Value)} {st : List Value} {d : zD}
/-- a call of an object's method -/
theorem z_cv {M' : zM} {n' idx q ci k N : Nat} {fs : List (Option Nat)} {T : u_T} {As st0 : List Value} {Q' : Option Value → zD → Prop} (hc : zC l g M' n' (zr g q :: As) d Q') (hM : zmk M' k) (hi : zmi M') (hlk : zml M.1 idx M') (hn : n' < n) (hq : q < zN) (hsh : zsh q = .inl (ci, fs)) (hcl : vwCl[ci]? = some (M'.2.1.cls, T, N)) (hA : As.length = k) (hst : st0 = As.reverse ++ zr g q :: st) (hw : (st.map fun v => v.category).sum ≤ 8) (hd : decode M.2.2.1 pc = .ok (.invokevirtual idx, 3))
    (kk : ∀ (r : Option Value) (d' : zD), Q' r d' → zV l x g M n Q (pc + 3) L (r.toList ++ st) d') : zV l x g M n Q pc L st0 d := by
  obtain ⟨p, e, s, m, args, below, meth, c, A⟩ := x
  intro ok H locs ls hP hD hS hl
  have ok' := ok
  have hpre := zpre (av := zr g q :: As) ok hP hD hS
  obtain ⟨hx, hb, hml, hown, hts, hr, hK, hAA, hlks, hao, ham⟩ := ok
  have hrec := va_recv hK hP hcl (show (zw g d)[q]? = some (g.2.2.1 q, .inr (ci, zfv g (d q) 0 fs)) by rw [zw_at g d hq, zcell_o g d hsh])
  have hR : (zrm n').frames + 1 ≤ (zrm n).frames ∧ 8 + (M'.2.2.2.1 + 11) + (zrm n').locals ≤ (zrm n).locals := by
    have := hM.2.2.2.2.2
    simp only [zrm]
    omega
  subst hst
  refine zrun (Q' := Q') (a := (zr g q :: As).toArray) (rest := st) ?_ ok' hD hS hl kk
  rcases hlk with hlk | ⟨host, hlk⟩
  · exact va_runV (As := As) (rest := st) (C := M'.2.1.cls) (b := g.2.2.1 q) ⟨hx, hb, hml, hown, hts⟩ (hc H.size) (cwV k hts (zgood (fun w hw => by
      rcases List.mem_append.mp hw with hw | hw
      · simp only [List.mem_cons, List.not_mem_nil, or_false] at hw
        rcases hw with rfl | rfl | rfl | rfl
        · exact hlk
        · exact hi.1
        · exact hi.2
        · exact hM.2.2.2.2.1
      · exact (zgood_M hM w hw).1)) rfl rfl rfl ⟨rfl, hM.2.2.1⟩ hR) ⟨hpre.1, hrec, hpre.2⟩ rfl hA hl.1 rfl (lv_room hw) hd ⟨Nat.le_refl _, Nat.le_refl _⟩
  · exact va_runVN (As := As) (rest := st) (C := M'.2.1.cls) (host := host) (b := g.2.2.1 q) ⟨hx, hb, hml, hown, hts⟩ (hc H.size) ⟨va_cnB k hts (zgood_M hM) rfl rfl rfl (hao.2.2.2.2 _ _ _ ham _ hlk) (hts _ hM.2.2.2.2.1) hM.2.2.1 hR, hts _ hi.1, hts _ hi.2⟩ ⟨hpre.1, hrec, hpre.2⟩ rfl hA hl.1 rfl (lv_room hw) hd ⟨Nat.le_refl _, Nat.le_refl _⟩
/-- a call of a static method -/
theorem z_cs {M' : zM} {n' idx k : Nat} {As st0 : List Value} {Q' : Option Value → zD → Prop} (hc : zC l g M' n' As d Q') (hM : zmk M' k) (hi : zms M') (hlk : zml M.1 idx M') (hn : n' < n) (hA : As.length = k) (hst : st0 = As.reverse ++ st) (hw : (st.map fun v => v.category).sum ≤ 8) (hd : decode M.2.2.1 pc = .ok (.invokestatic idx, 3))
    (kk : ∀ (r : Option Value) (d' : zD), Q' r d' → zV l x g M n Q (pc + 3) L (r.toList ++ st) d') : zV l x g M n Q pc L st0 d := by
  obtain ⟨p, e, s, m, args, below, meth, c, A⟩ := x
  intro ok H locs ls hP hD hS hl
  have ok' := ok
  have hpre := zpre (av := As) ok hP hD hS
  obtain ⟨hx, hb, hml, hown, hts, hr, hK, hAA, hlks, hao, ham⟩ := ok
  have hR : (zrm n').frames + 1 ≤ (zrm n).frames ∧ 8 + (M'.2.2.2.1 + 11) + (zrm n').locals ≤ (zrm n).locals := by
    have := hM.2.2.2.2.2
    simp only [zrm]
    omega
  subst hst
  refine zrun (Q' := Q') (a := As.toArray) (rest := st) ?_ ok' hD hS hl kk
  rcases hlk with hlk | ⟨host, hlk⟩
  · exact va_runS (As := As) (rest := st) ⟨hx, hb, hml, hown, hts⟩ (hc H.size) ⟨callB_of k hts (zgood_M hM) rfl rfl rfl (hts _ hM.2.2.2.2.1) (hts _ hlk) hM.2.2.1 hR, hts _ hi⟩ hpre rfl hA hl.1 rfl (lv_room hw) hd ⟨Nat.le_refl _, Nat.le_refl _⟩
  · exact va_runSN (As := As) (rest := st) (host := host) ⟨hx, hb, hml, hown, hts⟩ (hc H.size) ⟨va_cnB k hts (zgood_M hM) rfl rfl rfl (hao.2.2.2.2 _ _ _ ham _ hlk) (hts _ hM.2.2.2.2.1) hM.2.2.1 hR, hts _ hi, trivial⟩ hpre rfl hA hl.1 rfl (lv_room hw) hd ⟨Nat.le_refl _, Nat.le_refl _⟩
/-- the answer's condition may be weakened -/
theorem zC.mono {av : List Value} {Q Q' : Option Value → zD → Prop} (h : zC l g M n av d Q) (hm : ∀ r d', Q r d' → Q' r d') : zC l g M n av d Q' := by
  intro sz p e ha hc hk s m args below hf happ hP hK
  obtain ⟨t, o, h1, h2, h3, ⟨⟨r, d', hv, hq, h4⟩, h5⟩, h6⟩ := h sz p e ha hc hk s m args below hf happ hP hK
  exact ⟨t, o, h1, h2, h3, ⟨⟨r, d', hv, hm _ _ hq, h4⟩, h5⟩, h6⟩
end ZCROW
