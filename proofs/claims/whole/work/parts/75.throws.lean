/-! the class's methods that throw -/
theorem t_motion (l : Launch) (hl0 : l.stackTraces = false) {g : zG} (hg : zAmOk g) {aX : Nat → Nat} (hth : zThr g aX) {d : zD} {h : Hl} {ord : Nat → Nat} {tl : Nat} {tp : Nat → Nat} {fl : Int} (I : IC d h ord tl tp fl) {a b : Int} (ha : zin a) (hb : zin b) : yT l g mX7_motion 8 [zr g 0, zi a, zi b] d (motG h a b) (motV h ord a b) := by
  obtain ⟨w, H, K, D, O, R, ho, -⟩ := id I
  obtain ⟨⟨h0, h1, h2, h3, h4, h5⟩, -⟩ := id H
  have w3 := w.2.2.1
  refine yT_of (L := [(0, _), (1, _), (2, _)]) mk_X7_motion (Nat.le_of_ble_eq_true rfl) hg rfl (fun x hnt => ?_)
  refine y_aload_n 0 dX7_motion_0 rfl rfl ?_
  refine y_getr fl_RX7_16 (by decide) rfl rfl dX7_motion_1 ?_
  refine y_iload_n 1 dX7_motion_4 rfl rfl ?_
  refine y_cv (t_hasMotion_2 l hg d ha (by omega)) mk_X2_hasMotion mi_X2_hasMotion ml_RX7_138 ⟨Nat.le_of_ble_eq_true rfl, Nat.le_of_ble_eq_true rfl⟩ ⟨Nat.zero_le _, Nat.zero_le _⟩ (by decide) rfl rfl rfl rfl (Nat.le_of_ble_eq_true rfl) dX7_motion_5 (ypure ?_)
  refine y_if_ne_b 21 dX7_motion_8 (by decide) (fun h_8 => ?_) (fun h_8 => ?_)
  · have h8 := of_decide_eq_true h_8
    have hml : a.toNat < hN h := by omega
    obtain ⟨e1, e2, e3, e4⟩ := H.m hml
    have hmB : mB h a = true := decide_eq_true (by omega)
    refine y_iload_n 2 dX7_motion_21 rfl rfl ?_
    by_cases hr : 0 ≤ b ∧ b ≤ 4
    · rcases (show b = 0 ∨ b = 1 ∨ b = 2 ∨ b = 3 ∨ b = 4 by omega) with rfl | rfl | rfl | rfl | rfl
      · refine y_tabIn 56 0 rfl (by decide) (by decide) (by decide) rfl (by decide) dX7_motion_22 ?_
        refine y_aload_n 0 dX7_motion_56 rfl rfl ?_
        refine y_getr fl_RX7_16 (by decide) rfl rfl dX7_motion_57 ?_
        refine y_getr fl_RX7_148 (by decide) rfl rfl dX7_motion_60 ?_
        refine y_iload_n 1 dX7_motion_63 rfl rfl ?_
        refine y_iald a.toNat (by decide) rfl (by omega) (by omega) (by decide) dX7_motion_64 ?_
        exact y_iretx rfl (by rw [motG, hmB]; rfl) (by rw [e1]; rfl) dX7_motion_65
      · refine y_tabIn 66 1 rfl (by decide) (by decide) (by decide) rfl (by decide) dX7_motion_22 ?_
        refine y_aload_n 0 dX7_motion_66 rfl rfl ?_
        refine y_getr fl_RX7_16 (by decide) rfl rfl dX7_motion_67 ?_
        refine y_getr fl_RX7_151 (by decide) rfl rfl dX7_motion_70 ?_
        refine y_iload_n 1 dX7_motion_73 rfl rfl ?_
        refine y_iald a.toNat (by decide) rfl (by omega) (by omega) (by decide) dX7_motion_74 ?_
        exact y_iretx rfl (by rw [motG, hmB]; rfl) (by rw [e2]; rfl) dX7_motion_75
      · refine y_tabIn 76 2 rfl (by decide) (by decide) (by decide) rfl (by decide) dX7_motion_22 ?_
        refine y_aload_n 0 dX7_motion_76 rfl rfl ?_
        refine y_getr fl_RX7_16 (by decide) rfl rfl dX7_motion_77 ?_
        refine y_getr fl_RX7_154 (by decide) rfl rfl dX7_motion_80 ?_
        refine y_iload_n 1 dX7_motion_83 rfl rfl ?_
        refine y_iald a.toNat (by decide) rfl (by omega) (by omega) (by decide) dX7_motion_84 ?_
        exact y_iretx rfl (by rw [motG, hmB]; rfl) (by rw [e3]; rfl) dX7_motion_85
      · refine y_tabIn 86 3 rfl (by decide) (by decide) (by decide) rfl (by decide) dX7_motion_22 ?_
        refine y_aload_n 0 dX7_motion_86 rfl rfl ?_
        refine y_getr fl_RX7_16 (by decide) rfl rfl dX7_motion_87 ?_
        refine y_getr fl_RX7_157 (by decide) rfl rfl dX7_motion_90 ?_
        refine y_iload_n 1 dX7_motion_93 rfl rfl ?_
        refine y_iald a.toNat (by decide) rfl (by omega) (by omega) (by decide) dX7_motion_94 ?_
        exact y_iretx rfl (by rw [motG, hmB]; rfl) (by rw [e4]; rfl) dX7_motion_95
      · refine y_tabIn 96 4 rfl (by decide) (by decide) (by decide) rfl (by decide) dX7_motion_22 ?_
        refine y_aload_n 0 dX7_motion_96 rfl rfl ?_
        refine y_getr fl_RX7_37 (by decide) rfl rfl dX7_motion_97 ?_
        refine y_iload_n 1 dX7_motion_100 rfl rfl ?_
        refine y_top ((ord (plcF h ord a.toNat) : Nat) : Int) (by rw [(plc_is ho hml).2]; omega) ?_
        refine y_cv (t_placeOf l hg w H R ho (p := plcF h ord a.toNat) (plc_is ho hml).1) mk_X0_placeOf mi_X0_placeOf ml_RX7_160 ⟨Nat.le_of_ble_eq_true rfl, Nat.le_of_ble_eq_true rfl⟩ ⟨Nat.zero_le _, Nat.zero_le _⟩ (by decide) rfl rfl rfl rfl (Nat.le_of_ble_eq_true rfl) dX7_motion_101 (ypure ?_)
        exact y_iretx rfl (by rw [motG, hmB]; rfl) rfl dX7_motion_104
    · refine y_tabOut 105 hb (by omega) (by decide) dX7_motion_22 ?_
      have hG : motG h a b = false := by rw [motG, decide_eq_false hr, Bool.and_false]
      exact y_throw hth hl0 hnt hG 1 (by decide) rfl rfl (by decide) dX7_motion_105 dX7_motion_108 dX7_motion_109 dX7_motion_111 dX7_motion_114
  · have hG : motG h a b = false := by
      have := of_decide_eq_false h_8
      rw [motG, mB, decide_eq_false (by omega)]; rfl
    exact y_throw hth hl0 hnt hG 0 (by decide) rfl rfl (by decide) dX7_motion_11 dX7_motion_14 dX7_motion_15 dX7_motion_17 dX7_motion_20
theorem t_weight (l : Launch) (hl0 : l.stackTraces = false) {g : zG} (hg : zAmOk g) {aX : Nat → Nat} (hth : zThr g aX) {d : zD} {h : Hl} {ord : Nat → Nat} {tl : Nat} {tp : Nat → Nat} {fl : Int} (I : IC d h ord tl tp fl) {a b : Int} (ha : zin a) (hb : zin b) : yT l g mX7_weight 8 [zr g 0, zi a, zi b] d (weiG h a b) (weiV h a b) := by
  obtain ⟨w, H, K, D, O, R, ho, -⟩ := id I
  obtain ⟨⟨h0, h1, h2, h3, h4, h5⟩, -⟩ := id H
  have w4 := w.2.2.2.1
  refine yT_of (L := [(0, _), (1, _), (2, _)]) mk_X7_weight (Nat.le_of_ble_eq_true rfl) hg rfl (fun x hnt => ?_)
  refine y_aload_n 0 dX7_weight_0 rfl rfl ?_
  refine y_getr fl_RX7_16 (by decide) rfl rfl dX7_weight_1 ?_
  refine y_iload_n 1 dX7_weight_4 rfl rfl ?_
  refine y_cv (t_hasVoter_2 l hg d ha (by omega)) mk_X2_hasVoter mi_X2_hasVoter ml_RX7_97 ⟨Nat.le_of_ble_eq_true rfl, Nat.le_of_ble_eq_true rfl⟩ ⟨Nat.zero_le _, Nat.zero_le _⟩ (by decide) rfl rfl rfl rfl (Nat.le_of_ble_eq_true rfl) dX7_weight_5 (ypure ?_)
  refine y_if_eq_b 18 dX7_weight_8 (by decide) (fun h_8 => ?_) (fun h_8 => ?_)
  · have hG : weiG h a b = false := by
      have := of_decide_eq_false h_8
      rw [weiG, vB, decide_eq_false (by omega)]; rfl
    exact y_throw hth hl0 hnt hG 2 (by decide) rfl rfl (by decide) dX7_weight_18 dX7_weight_21 dX7_weight_22 dX7_weight_24 dX7_weight_27
  · refine y_iload_n 2 dX7_weight_11 rfl rfl ?_
    refine y_cs (t_isClause l hg d hb) mk_X7_isClause ms_X7_isClause ml_RX7_101 ⟨Nat.le_of_ble_eq_true rfl, Nat.le_of_ble_eq_true rfl⟩ ⟨Nat.zero_le _, Nat.zero_le _⟩ rfl rfl (Nat.le_of_ble_eq_true rfl) dX7_weight_12 (ypure ?_)
    refine y_if_ne_b 28 dX7_weight_15 (by decide) (fun h_15 => ?_) (fun h_15 => ?_)
    · have h8 := of_decide_eq_true h_8
      have h15 := of_decide_eq_true h_15
      have hvB : vB h a = true := decide_eq_true (by omega)
      have hwe7 : d 7 (8 * a.toNat + b.toNat) = hwe h (8 * a.toNat + b.toNat) := H.2.2.1 _ (by omega)
      refine y_aload_n 0 dX7_weight_28 rfl rfl ?_
      refine y_getr fl_RX7_16 (by decide) rfl rfl dX7_weight_29 ?_
      refine y_getr fl_RX7_104 (by decide) rfl rfl dX7_weight_32 ?_
      refine y_iload_n 1 dX7_weight_35 rfl rfl ?_
      refine y_bipush dX7_weight_36 (by decide) ?_
      refine y_imul dX7_weight_38 ?_
      refine y_iload_n 2 dX7_weight_39 rfl rfl ?_
      refine y_iadd dX7_weight_40 ?_
      refine y_iald (8 * a.toNat + b.toNat) (by decide) rfl (by omega) (by omega) (by decide) dX7_weight_41 ?_
      exact y_iretx rfl (by rw [weiG, hvB, h_15]; rfl) (by rw [hwe7]; rfl) dX7_weight_42
    · have hG : weiG h a b = false := by rw [weiG, h_15, Bool.and_false]
      exact y_throw hth hl0 hnt hG 2 (by decide) rfl rfl (by decide) dX7_weight_18 dX7_weight_21 dX7_weight_22 dX7_weight_24 dX7_weight_27
theorem t_likes (l : Launch) (hl0 : l.stackTraces = false) {g : zG} (hg : zAmOk g) {aX : Nat → Nat} (hth : zThr g aX) {d : zD} {h : Hl} {ord : Nat → Nat} {tl : Nat} {tp : Nat → Nat} {fl : Int} (I : IC d h ord tl tp fl) {a b : Int} (ha : zin a) (hb : zin b) : yT l g mX7_likes 8 [zr g 0, zi a, zi b] d (likG h a b) (likV h a b) := by
  obtain ⟨w, H, K, D, O, R, ho, -⟩ := id I
  obtain ⟨⟨h0, h1, h2, h3, h4, h5⟩, -⟩ := id H
  have w4 := w.2.2.2.1
  refine yT_of (L := [(0, _), (1, _), (2, _)]) mk_X7_likes (Nat.le_of_ble_eq_true rfl) hg rfl (fun x hnt => ?_)
  refine y_aload_n 0 dX7_likes_0 rfl rfl ?_
  refine y_getr fl_RX7_16 (by decide) rfl rfl dX7_likes_1 ?_
  refine y_iload_n 1 dX7_likes_4 rfl rfl ?_
  refine y_cv (t_hasVoter_2 l hg d ha (by omega)) mk_X2_hasVoter mi_X2_hasVoter ml_RX7_97 ⟨Nat.le_of_ble_eq_true rfl, Nat.le_of_ble_eq_true rfl⟩ ⟨Nat.zero_le _, Nat.zero_le _⟩ (by decide) rfl rfl rfl rfl (Nat.le_of_ble_eq_true rfl) dX7_likes_5 (ypure ?_)
  refine y_if_eq_b 18 dX7_likes_8 (by decide) (fun h_8 => ?_) (fun h_8 => ?_)
  · have hG : likG h a b = false := by
      have := of_decide_eq_false h_8
      rw [likG, vB, decide_eq_false (by omega)]; rfl
    exact y_throw hth hl0 hnt hG 3 (by decide) rfl rfl (by decide) dX7_likes_18 dX7_likes_21 dX7_likes_22 dX7_likes_24 dX7_likes_27
  · refine y_iload_n 2 dX7_likes_11 rfl rfl ?_
    refine y_cs (t_isForm l hg d hb) mk_X7_isForm ms_X7_isForm ml_RX7_167 ⟨Nat.le_of_ble_eq_true rfl, Nat.le_of_ble_eq_true rfl⟩ ⟨Nat.zero_le _, Nat.zero_le _⟩ rfl rfl (Nat.le_of_ble_eq_true rfl) dX7_likes_12 (ypure ?_)
    refine y_if_ne_b 28 dX7_likes_15 (by decide) (fun h_15 => ?_) (fun h_15 => ?_)
    · have h8 := of_decide_eq_true h_8
      have h15 := of_decide_eq_true h_15
      have hvB : vB h a = true := decide_eq_true (by omega)
      refine y_aload_n 0 dX7_likes_28 rfl rfl ?_
      refine y_getr fl_RX7_44 (by decide) rfl rfl dX7_likes_29 ?_
      refine y_iload_n 1 dX7_likes_32 rfl rfl ?_
      refine y_iload_n 2 dX7_likes_33 rfl rfl ?_
      refine y_top ((b.toNat : Nat) : Int) (by omega) ?_
      refine y_top2 ((a.toNat : Nat) : Int) (by omega) ?_
      refine y_cv (t_likingOf l hg w K (v := a.toNat) (f := b.toNat) (by omega) (by omega)) mk_X5_likingOf mi_X5_likingOf ml_RX7_172 ⟨Nat.le_of_ble_eq_true rfl, Nat.le_of_ble_eq_true rfl⟩ ⟨Nat.zero_le _, Nat.zero_le _⟩ (by decide) rfl rfl rfl rfl (Nat.le_of_ble_eq_true rfl) dX7_likes_34 (ypure ?_)
      exact y_iretx rfl (by rw [likG, hvB, fB, h_15]; rfl) rfl dX7_likes_37
    · have hG : likG h a b = false := by rw [likG, fB, h_15, Bool.and_false]
      exact y_throw hth hl0 hnt hG 3 (by decide) rfl rfl (by decide) dX7_likes_18 dX7_likes_21 dX7_likes_22 dX7_likes_24 dX7_likes_27
/-! the law's own catchers -/
def lQ (d : zD) (b : Bool) (v : Int) : Option Value → zD → Prop := fun r d' => r = some (zi (if b = true then 0 else 1)) ∧ (∀ p, p ≠ 66 → d' p = d p) ∧ (b = true → d' 66 0 = v)
def hH : List (Nat × Nat × Nat × Nat) := [(0, 10, 13, 13)]
abbrev hws (M : zM) : List Cond := Cond.codeWith M.2.1 M.2.2.1 M.2.2.2.1 M.2.2.2.2 hH :: zTB
def yH (l : Launch) (g : zG) (M : zM) (av : List Value) (d : zD) (b : Bool) (v : Int) : Prop := ∀ sz : Nat, Met l M.2.1 (hws M) (yrm 9) (zPc g d av sz) (zQc g (va_A (zw g d) sz) (lQ d b v)) 1 6 (va_A (zw g d) sz)
theorem y_ofWH {l : Launch} {y : MethodName} {ws ws' : List Cond} {rm : Room} {Pc : Array Value → State → Prop} {Qc : Array Value → State → Outcome → State → Prop} {mc ms : Nat} {free : Addr → Prop} {cc : ByteArray} {maxL : Nat} {ret : Option FieldType} {hh : List (Nat × Nat × Nat × Nat)}
    (hy : plainName y.cls = true) (hw : ws = Cond.codeWith y cc maxL ret hh :: ws')
    (body : ∀ p e s m args below meth c s₁, BodyLoose p l y (headSpec ws rm) cc maxL ret e s m args below meth c s₁ → c.maxLocals = maxL → c.exceptionTable.toList = tableOf hh → Pc args s →
      W p l e (headSpec ws rm).room s m args below meth c s.heap [] 0 0 (MQ below Qc args s mc ms free) (entryFrame m args maxL)) : Met l y ws rm Pc Qc mc ms free := by
  refine MetFree.of_bodyS (code := cc) (maxLocals := maxL) (ret := ret) hy ?_ ?_
  · intro args s m h hn
    obtain ⟨m9, meth, c, hn9, h1, h2, h3, h4, -, h5, h6, -⟩ := Cond.codeWith_spec (atoms_spec (ws := ws) h _ (by rw [hw]; exact List.mem_cons_self))
    cases hn.symm.trans hn9
    exact ⟨meth, c, h1, h2, h3, h4, h5, h6⟩
  · intro p e s m args below meth c s₁ B hml hP _
    have hh0 : s₁.heap = s.heap := by rw [B.state]; rfl
    have ht := vx_table (x := y) B (atoms_spec (ws := ws) B.pre _ (by rw [hw]; exact List.mem_cons_self))
    obtain ⟨t, a1, o, b1, b2, b3⟩ := body p e s m args below meth c s₁ B hml ht hP s₁ hh0 (Stand.of_body B)
    exact ⟨t, o, a1, b1, b2, ⟨b3.1, b3.2⟩⟩
def hend (x : zX) (g : zG) (d : zD) (b : Bool) (v : Int) : State → Prop := match x with
  | (_, _, s, _, args, below, _, _, A) => MQ below (zQc g A (lQ d b v)) args s 1 6 A
def ytab (x : zX) : Prop := match x with
  | (_, _, _, _, _, _, _, c, _) => c.exceptionTable.toList = tableOf hH
theorem yH_of {l : Launch} {g : zG} {M : zM} {av : List Value} {d : zD} {b : Bool} {v : Int} {L : List (Nat × Value)} (hM1 : plainName M.2.1.cls = true) (hM2 : M.1 = M.2.1.cls) (hn : (lg_sl av).length ≤ M.2.2.2.1) (hg : zAmOk g) (hL : lv_args 0 av = L) (body : ∀ x : zX, ytab x → yV l x g M (yrm 9) 0 0 (hend x g d b v) 0 L [] d) : yH l g M av d b v := by
  intro sz
  refine y_ofWH (cc := M.2.2.1) (maxL := M.2.2.2.1) (ret := M.2.2.2.2) (hh := hH) hM1 rfl ?_
  intro p e s m args below meth c s₁ B hml hnt hv
  obtain ⟨rfl, hsz, hP, hK, hD0, ham⟩ := hv
  subst hsz
  subst hL
  have hD := hD0.self (sz := s.heap.size)
  have hl := lv_entry av hn
  rw [lg_entry_eq]
  have hts := atoms_spec (ws := hws M) B.pre
  exact body (p, e, s, m, _, below, meth, c, va_A (zw g d) s.heap.size) hnt ⟨B.exec, B.bytes, hml, by rw [hM2]; exact findClass_of_methodNamed B.named, fun w hw => hts w (List.mem_cons_of_mem _ hw), B.returns, hK, fun q h => Or.inr h, B.notSynchronized, hg, ham⟩ s.heap [] _ hP hD va_S.rf hl
theorem y_ireth {l : Launch} {x : zX} {g : zG} {M : zM} {pc : Nat} {L : List (Nat × Value)} {d d' : zD} {b : Bool} {v u : Int} (hr : M.2.2.2.2 = some .int) (hd : decode M.2.2.1 pc = .ok (.ireturn, 1)) (hq : lQ d b v (some (zi u)) d') : yV l x g M (yrm 9) 1 6 (hend x g d b v) pc L [zi u] d' := by
  obtain ⟨p, e, s, m, args, below, meth, c, A⟩ := x
  intro ok H locs ls hP hD hS hl
  obtain ⟨hx, hb2, hml, hown, hts, hrt, hK, hA, hlk, hao, ham⟩ := ok
  exact W.iret (v := Int32.ofInt u) hx hb2 (hrt.trans hr) (fun t ht hW => ⟨⟨_, d', rfl, hq, by rw [ht]; exact hP, va_K.moved hW.alike hK, hD⟩, hS.F ht⟩) hS.2.2 hd hlk
/-- a call that may throw, its throw caught at 13 -/
theorem y_cvx {l : Launch} {x : zX} {g : zG} {M : zM} {R : Room} {ce sl : Nat} {F : State → Prop} {pc : Nat} {L : List (Nat × Value)} {st : List Value} {d : zD} {M' : zM} {n' idx q ci k N : Nat} {fs : List (Option Nat)} {T : u_T} {As st0 : List Value} {b : Bool} {v : Int} {aX : Nat → Nat} (hc : yT l g M' n' (zr g q :: As) d b v) (hM : zmk M' k) (hi : zmi M') (hlk : Cond.methodLink M.1 idx M'.2.1 ∈ zTB) (hR : n' + 1 ≤ R.frames ∧ 40 * (n' + 1) ≤ R.locals) (hcs : ce + 1 ≤ R.cells ∧ sl + 6 ≤ R.slots) (hq : q < zN) (hsh : zsh q = .inl (ci, fs)) (hcl : vwCl[ci]? = some (M'.2.1.cls, T, N)) (hA : As.length = k) (hst : st0 = As.reverse ++ zr g q :: st) (hw : (st.map fun v => v.category).sum ≤ 8) (hd : decode M.2.2.1 pc = .ok (.invokevirtual idx, 3)) (htab : ytab x) (hM1 : M.1 = RL) (hth : zThr g aX) (hcov : covers ⟨0, 10, 13, 13⟩ pc = true)
    (kk : b = true → yV l x g M R (ce + 1) (sl + 6) F (pc + 3) L (zi v :: st) d) (kx : b = false → ∀ q9 : Nat, yV l x g M R (ce + 1) (sl + 6) F 13 L [zs q9] d) : yV l x g M R ce sl F pc L st0 d := by
  obtain ⟨p, e, s, m, args, below, meth, c, A⟩ := x
  intro ok H locs ls hP hD hS hl
  have ok' := ok
  have hpre := zpre (av := zr g q :: As) ok hP hD hS
  obtain ⟨hx, hb, hml, hown, hts, hr, hK, hAA, hlks, hao, ham⟩ := ok
  have hrec := va_recv hK hP hcl (show (zw g d)[q]? = some (g.2.2.1 q, .inr (ci, zfv g (d q) 0 fs)) by rw [zw_at g d hq, zcell_o g d hsh])
  have hR : (yrm n').frames + 1 ≤ R.frames ∧ 8 + (M'.2.2.2.1 + 11) + (yrm n').locals ≤ R.locals := by
    have := hM.2.2.2.2.2
    simp only [yrm]
    omega
  subst hst
  have hF := zfree hD hS hAA
  have hrun := vx_runV (e := e) (below := below) (meth := meth) (locs := locs) (g := F0 m pc ls (As.reverse ++ zr g q :: st)) (As := As) (rest := st) (C := M'.2.1.cls) (b := g.2.2.1 q) ⟨hx, hb, hml, hown, hts⟩ (hc H.size) (cwV k hts (zgood (fun w hw => by
      rcases List.mem_append.mp hw with hw | hw
      · simp only [List.mem_cons, List.not_mem_nil, or_false] at hw
        rcases hw with rfl | rfl | rfl | rfl
        · exact hlk
        · exact hi.1
        · exact hi.2
        · exact hM.2.2.2.2.1
      · exact (zgood_M hM w hw).1)) rfl rfl rfl ⟨rfl, hM.2.2.1⟩ hR) ⟨hpre.1, hrec, hpre.2⟩ rfl hA hl.1 rfl (lv_room hw) hd hcs
  intro T0 hT X
  rcases hrun T0 hT X with ⟨v0, st₀, t, T', L1, h0, X', hL, e1, e2, ⟨⟨r, d', hv, hq0, hP1, hK1, hD1⟩, hz, hk⟩, stp⟩ | ⟨q9, st₀, t, T', L1, E, ce9, h0, X', hL, e1, e2, ⟨⟨hE, hbf, hP1, hK1, hD1⟩, hz, hk⟩, hce, hcv, hcl9, stp⟩
  · cases hv
    obtain ⟨hbt, hr0, hd0⟩ := hq0
    subst hr0
    subst hd0
    rw [h0] at hz hk
    obtain ⟨t2, a1, b1⟩ := kk hbt ok' T'.heap (locs ++ L1) ls (by rw [e1]; exact hP1) (hD1.weaken (fun k q _ h => hF q.1 h)) ⟨Nat.le_trans hS.1 (by rw [e1]; exact hz), fun q h1 h2 => by rw [e1, hk q (Nat.lt_of_lt_of_le h1 hS.1) (fun z => h2 (hF q z))]; exact hS.2.1 q h1 h2, fun q hq => by
        rcases List.mem_append.mp hq with h | h
        · exact hS.2.2 q h
        · exact hF _ (hL q h)⟩ hl T' rfl X'
    exact ⟨t2, stp t2 a1, b1⟩
  · subst hE
    rw [h0] at hz hk
    have hcatch := vx_catch (p := p) (l := l) (e := e) (R := R) (below := below) (meth := meth) (H := T'.heap) (locs := locs ++ L1) (cells := ce + 1) (slots := sl + 6) (Q := F) (ls := ls) (rest := st) (pc := pc) (own := RL) (name := xE) (E := xE) (by rw [← hM1]; exact hown) [] ⟨0, 10, 13, 13⟩ [] (show c.exceptionTable.toList = _ from htab) (fun z hz => absurd hz List.not_mem_nil) hcov (by decide) (hts _ xc_13) (va_Nw.use rfl ((hth A s s.heap ham).1 _ x_cast)) (by rw [e1]; exact hce) hcv hcl9
      (kx hbf q9 ok' T'.heap (locs ++ L1) ls (by rw [e1]; exact hP1) (hD1.weaken (fun k q _ h => hF q.1 h)) ⟨Nat.le_trans hS.1 (by rw [e1]; exact hz), fun q h1 h2 => by rw [e1, hk q (Nat.lt_of_lt_of_le h1 hS.1) (fun z => h2 (hF q z))]; exact hS.2.1 q h1 h2, fun q hq => by
        rcases List.mem_append.mp hq with h | h
        · exact hS.2.2 q h
        · exact hF _ (hL q h)⟩ hl)
    obtain ⟨t2, a1, b1⟩ := hcatch T' rfl X'
    exact ⟨t2, stp.trans a1, b1⟩
theorem t_L_motion (l : Launch) (hl0 : l.stackTraces = false) {g : zG} (hg : zAmOk g) {aX : Nat → Nat} (hth : zThr g aX) {d : zD} {h : Hl} {ord : Nat → Nat} {tl : Nat} {tp : Nat → Nat} {fl : Int} (I : IC d h ord tl tp fl) {a b : Int} (ha : zin a) (hb : zin b) (hv : (motG h a b) = true → zin (motV h ord a b)) : yH l g (RL, yL_motion, cL_motion, 5, some .int) [zr g 0, zi a, zi b, zr g 66] d (motG h a b) (motV h ord a b) := by
  refine yH_of (L := [(0, _), (1, _), (2, _), (3, _)]) (by decide +kernel) rfl (Nat.le_of_ble_eq_true rfl) hg rfl (fun x htab => ?_)
  refine y_aload_n 3 dL_motion_0 rfl rfl ?_
  refine y_iconst dL_motion_1 ?_
  refine y_aload_n 0 dL_motion_2 rfl rfl ?_
  refine y_iload_n 1 dL_motion_3 rfl rfl ?_
  refine y_iload_n 2 dL_motion_4 rfl rfl ?_
  refine y_cvx (t_motion l hl0 hg hth I ha hb) mk_X7_motion mi_X7_motion (zTB_in 949 (by decide +kernel) rfl) ⟨Nat.le_of_ble_eq_true rfl, Nat.le_of_ble_eq_true rfl⟩ ⟨Nat.le_refl _, Nat.le_refl _⟩ (by decide) rfl rfl rfl rfl (Nat.le_of_ble_eq_true rfl) dL_motion_5 htab rfl hth (by decide) (fun hG => ?_) (fun hG q9 => ?_)
  · refine y_i2l (hv hG) dL_motion_8 ?_
    refine y_last 0 (by decide) rfl rfl (by decide) (by decide) dL_motion_9 ?_
    refine y_goto 17 dL_motion_10 (by decide) ?_
    refine y_iconst dL_motion_17 ?_
    exact y_ireth rfl dL_motion_18 ⟨by rw [if_pos hG], fun p hp => zu_ne hp, fun _ => zu_at _ _ _ _⟩
  · refine y_astores (L' := [(0, _), (1, _), (2, _), (3, _), (4, _)]) dL_motion_13 (by decide) rfl rfl ?_
    refine y_iconst dL_motion_15 ?_
    exact y_ireth rfl dL_motion_16 ⟨by rw [if_neg (by rw [hG]; decide)], fun p _ => rfl, fun z => by rw [hG] at z; cases z⟩
theorem t_L_weight (l : Launch) (hl0 : l.stackTraces = false) {g : zG} (hg : zAmOk g) {aX : Nat → Nat} (hth : zThr g aX) {d : zD} {h : Hl} {ord : Nat → Nat} {tl : Nat} {tp : Nat → Nat} {fl : Int} (I : IC d h ord tl tp fl) {a b : Int} (ha : zin a) (hb : zin b) (hv : (weiG h a b) = true → zin (weiV h a b)) : yH l g (RL, yL_weight, cL_weight, 5, some .int) [zr g 0, zi a, zi b, zr g 66] d (weiG h a b) (weiV h a b) := by
  refine yH_of (L := [(0, _), (1, _), (2, _), (3, _)]) (by decide +kernel) rfl (Nat.le_of_ble_eq_true rfl) hg rfl (fun x htab => ?_)
  refine y_aload_n 3 dL_weight_0 rfl rfl ?_
  refine y_iconst dL_weight_1 ?_
  refine y_aload_n 0 dL_weight_2 rfl rfl ?_
  refine y_iload_n 1 dL_weight_3 rfl rfl ?_
  refine y_iload_n 2 dL_weight_4 rfl rfl ?_
  refine y_cvx (t_weight l hl0 hg hth I ha hb) mk_X7_weight mi_X7_weight (zTB_in 1026 (by decide +kernel) rfl) ⟨Nat.le_of_ble_eq_true rfl, Nat.le_of_ble_eq_true rfl⟩ ⟨Nat.le_refl _, Nat.le_refl _⟩ (by decide) rfl rfl rfl rfl (Nat.le_of_ble_eq_true rfl) dL_weight_5 htab rfl hth (by decide) (fun hG => ?_) (fun hG q9 => ?_)
  · refine y_i2l (hv hG) dL_weight_8 ?_
    refine y_last 0 (by decide) rfl rfl (by decide) (by decide) dL_weight_9 ?_
    refine y_goto 17 dL_weight_10 (by decide) ?_
    refine y_iconst dL_weight_17 ?_
    exact y_ireth rfl dL_weight_18 ⟨by rw [if_pos hG], fun p hp => zu_ne hp, fun _ => zu_at _ _ _ _⟩
  · refine y_astores (L' := [(0, _), (1, _), (2, _), (3, _), (4, _)]) dL_weight_13 (by decide) rfl rfl ?_
    refine y_iconst dL_weight_15 ?_
    exact y_ireth rfl dL_weight_16 ⟨by rw [if_neg (by rw [hG]; decide)], fun p _ => rfl, fun z => by rw [hG] at z; cases z⟩
theorem t_L_likes (l : Launch) (hl0 : l.stackTraces = false) {g : zG} (hg : zAmOk g) {aX : Nat → Nat} (hth : zThr g aX) {d : zD} {h : Hl} {ord : Nat → Nat} {tl : Nat} {tp : Nat → Nat} {fl : Int} (I : IC d h ord tl tp fl) {a b : Int} (ha : zin a) (hb : zin b) (hv : (likG h a b) = true → zin (likV h a b)) : yH l g (RL, yL_likes, cL_likes, 5, some .int) [zr g 0, zi a, zi b, zr g 66] d (likG h a b) (likV h a b) := by
  refine yH_of (L := [(0, _), (1, _), (2, _), (3, _)]) (by decide +kernel) rfl (Nat.le_of_ble_eq_true rfl) hg rfl (fun x htab => ?_)
  refine y_aload_n 3 dL_likes_0 rfl rfl ?_
  refine y_iconst dL_likes_1 ?_
  refine y_aload_n 0 dL_likes_2 rfl rfl ?_
  refine y_iload_n 1 dL_likes_3 rfl rfl ?_
  refine y_iload_n 2 dL_likes_4 rfl rfl ?_
  refine y_cvx (t_likes l hl0 hg hth I ha hb) mk_X7_likes mi_X7_likes (zTB_in 1034 (by decide +kernel) rfl) ⟨Nat.le_of_ble_eq_true rfl, Nat.le_of_ble_eq_true rfl⟩ ⟨Nat.le_refl _, Nat.le_refl _⟩ (by decide) rfl rfl rfl rfl (Nat.le_of_ble_eq_true rfl) dL_likes_5 htab rfl hth (by decide) (fun hG => ?_) (fun hG q9 => ?_)
  · refine y_i2l (hv hG) dL_likes_8 ?_
    refine y_last 0 (by decide) rfl rfl (by decide) (by decide) dL_likes_9 ?_
    refine y_goto 17 dL_likes_10 (by decide) ?_
    refine y_iconst dL_likes_17 ?_
    exact y_ireth rfl dL_likes_18 ⟨by rw [if_pos hG], fun p hp => zu_ne hp, fun _ => zu_at _ _ _ _⟩
  · refine y_astores (L' := [(0, _), (1, _), (2, _), (3, _), (4, _)]) dL_likes_13 (by decide) rfl rfl ?_
    refine y_iconst dL_likes_15 ?_
    exact y_ireth rfl dL_likes_16 ⟨by rw [if_neg (by rw [hG]; decide)], fun p _ => rfl, fun z => by rw [hG] at z; cases z⟩
