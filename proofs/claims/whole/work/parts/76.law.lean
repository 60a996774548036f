/-! the law: its end (kit/laws' skeleton), its cases, its loop; made by wip/whole/gen_law.py -/
def R_law : String := "AmendmentTreeLaw"
def lw_P (b : Addr) (xs : List Int32) (args : Array Value) (s : State) : Prop := args = #[.ref b] ∧ s.IntsAt b xs ∧ xs.length ≤ 3072 ∧ (Jvm.Cond.and given_1 narrow_1).before args s = true
def lw_Q (_ : Array Value) (s : State) (o : Outcome) (t : State) : Prop := o = .returned (some (.int 1)) ∧ Framed s o t [] 601024 7293034
def lw_Z (below : List Frame) (a : Array Value) (s : State) : State → Prop := fun t => ∃ o, t.status = .running ∧ Ended t below o ∧ lw_Q a s o t
/-- the law's own end, with 1 on the stack, nothing written that was there before, its room as the claim has it -/
theorem lw_ret {p : Program} {l : Launch} {e : Env} {s : State} {m : MethodId} {below : List Frame} {meth : Method} {c : Code} {b : Nat} (hx : p.tables.exec = Jvm.exec) (hb : c.code = code) (hr : meth.sig.returnType = ret) (hlocks : meth.locks = false) {pc : Nat} {H : Heap} {ls : Array Slot} (hdg : decode code pc = .ok (.ireturn, 1)) : W p l e room_1 s m #[Value.ref b] below meth c H [] 601024 7293034 (lw_Z below #[Value.ref b] s) (F0 m pc ls [.int 1]) := by
  intro T hT X
  obtain ⟨fs, hret, hrun, hended, hW, hframe⟩ := X.leave (v := some (.int 1)) (hlocks := hlocks) (fun h => by rw [hr] at h; cases h)
  have hmeth' : T.vm.method? m = some meth := X.method'
  refine ⟨T.setFrames fs, ?_, .returned (some (.int 1)), hrun, hended, rfl, ⟨_, rfl⟩, hW, hframe⟩
  jvm_step X.here [X.here.top, hx, hb, hdg, hmeth', hr, ret, narrow_b1]
  (try refine ⟨rfl, ?_⟩); (try refine ⟨rfl, ?_⟩)
  first | (intro acts; rw [hret _ acts rfl rfl rfl]) | rw [hret _ _ rfl rfl rfl]
  exact Steps.refl _
/-- what holds at the law's entry: the machine, the code, the tables' words (any of lw_tbl by 'hts w (by decide +kernel)'), the script of L ints xs at the cell b, what the Statement gives of the start (any of its parts by flat_of_before) -/
def lw_At (p : Program) (s : State) (m : MethodId) (meth : Method) (c : Code) (b L : Nat) (xs : Nat → Int32) : Prop :=
  p.tables.exec = Jvm.exec ∧ c.code = code ∧ meth.sig.returnType = ret ∧ c.maxLocals = 7 ∧ s.vm.findClass R_law = some m.cls ∧ (∀ w ∈ lw_tbl, w.before #[Value.ref b] s = true) ∧ va_X b L xs s s.heap ∧ b < s.heap.size ∧ meth.locks = false ∧ (Jvm.Cond.and given_1 narrow_1).before #[Value.ref b] s = true
abbrev mLaw : zM := (RL, yL_law, cL_law, 7, (some .boolean))
abbrev lwL (g : zG) (b i : Nat) : List (Nat × Value) := [(0, zs b), (1, zr g 0), (2, zr g 37), (3, zr g 66), (4, zi (i : Int))]
def sX (xs : Nat → Int32) (j : Nat) : Int := (xs j).toInt
theorem sX_in (xs : Nat → Int32) (j : Nat) : zin (sX xs j) := by
  have h1 := Int32.le_toInt (xs j)
  have h2 := Int32.toInt_lt (xs j)
  exact ⟨by unfold sX; omega, by unfold sX; omega⟩
def yX (x : zX) (b L : Nat) (xs : Nat → Int32) : Prop := match x with
  | (_, _, s, _, _, _, _, _, A) => va_X b L xs s s.heap ∧ b < s.heap.size ∧ ¬ A b
theorem MF.zF {a b : zD} (h : MF a b) : zF ((List.range 29).map (· + 37)) a b := fun p hp => h p (by
  by_cases c : p < 37
  · exact Or.inl c
  · refine Or.inr (Nat.lt_of_not_le fun z => hp (List.mem_map.mpr ⟨p - 37, List.mem_range.mpr (by omega), by omega⟩)))
theorem IC.mf {d d' : zD} {h : Hl} {ord : Nat → Nat} {tl : Nat} {tp : Nat → Nat} {fl : Int} (I : IC d h ord tl tp fl) (m : MF d d') : IC d' h ord tl tp fl := I.of m.zF (by decide)
theorem CF.zF {a b : zD} (h : CF a b) : zF (List.range 37) a b := fun p hp => h p (Nat.le_of_not_lt fun z => hp (List.mem_range.mpr z))
theorem IM.cf {d d' : zD} {h : Hl} {ord : Nat → Nat} {tl : Nat} {tp : Nat → Nat} {fl : Int} (I : IM d h ord tl tp fl) (m : CF d d') : IM d' h ord tl tp fl := I.of m.zF (by decide) (by rw [m 37 (by decide)]) (by rw [m 37 (by decide)])
theorem and31 (a : Int) : Int32.ofInt a &&& Int32.ofInt 31 = Int32.ofInt (((a % 4294967296).toNat % 32 : Nat) : Int) := by
  have h : Int32.ofInt a = Int32.ofInt (((a % 4294967296).toNat : Nat) : Int) := by
    have := zi_u a
    unfold zi at this
    injection this
  rw [h, show (31 : Int) = ((31 : Nat) : Int) from rfl, zand]
  exact congrArg (fun z : Nat => Int32.ofInt (z : Int)) (Nat.and_two_pow_sub_one_eq_mod _ 5)
section YLAW
variable {l : Launch} {x : zX} {g : zG} {M : zM} {R : Room} {ce sl : Nat} {F : State → Prop} {pc : Nat} {L : List (Nat × Value)} {st : List Value} {d : zD}
theorem y_slen {b n : Nat} {xs : Nat → Int32} (hX : yX x b n xs) (hd : decode M.2.2.1 pc = .ok (.arraylength, 1)) (k : yV l x g M R ce sl F (pc + 1) L (zi (n : Int) :: st) d) : yV l x g M R ce sl F pc L (zs b :: st) d := by
  obtain ⟨p, e, s, m, args, below, meth, c, A⟩ := x
  intro ok H locs ls hP hD hS hl
  have k' := k ok H locs ls hP hD hS hl
  rw [show zi (n : Int) = .int (Int32.ofNat n) by unfold zi; rw [zn]; rfl] at k'
  exact va_slen ok.1 ok.2.1 hX.1 hX.2.1 hX.2.2 hS hd k'
theorem y_sld {b n : Nat} {xs : Nat → Int32} {a : Int} (j : Nat) (hX : yX x b n xs) (ha : a = (j : Int)) (hj : j < n) (hn : n < 2147483648) (hd : decode M.2.2.1 pc = .ok (.iaload, 1)) (k : yV l x g M R ce sl F (pc + 1) L (zi (sX xs j) :: st) d) : yV l x g M R ce sl F pc L (zi a :: zs b :: st) d := by
  obtain ⟨p, e, s, m, args, below, meth, c, A⟩ := x
  intro ok H locs ls hP hD hS hl
  subst ha
  have k' := k ok H locs ls hP hD hS hl
  refine va_sld ok.1 ok.2.1 hX.1 hX.2.1 hX.2.2 hS (zvin hj hn) hd ?_
  rw [zclamp (by omega)]
  rw [show zi (sX xs j) = .int (xs j) by unfold zi sX; rw [Int32.ofInt_toInt]] at k'
  exact k'
/-- a call of one of the law's own catchers -/
theorem y_csh {M' : zM} {idx k : Nat} {As st0 : List Value} {b : Bool} {v : Int} (hc : yH l g M' As d b v) (hcode : Cond.codeWith M'.2.1 M'.2.2.1 M'.2.2.2.1 M'.2.2.2.2 hH ∈ zTB) (hini : Cond.initialized M'.2.1.cls ∈ zTB) (hstt : Cond.static M'.2.1 ∈ zTB) (hlk : Cond.methodLink M.1 idx M'.2.1 ∈ zTB) (hmx : M'.2.2.2.1 ≤ 21) (hdd : M'.2.1.cls ≠ "java/lang/invoke/MethodHandle" ∧ M'.2.1.cls ≠ "java/lang/invoke/VarHandle" ∧ (parseMethodDescriptor M'.2.1.desc).map (fun d => d.parameters.length) = some k) (hR : 10 ≤ R.frames ∧ 400 ≤ R.locals) (hcs : ce + 1 ≤ R.cells ∧ sl + 6 ≤ R.slots) (hA : As.length = k) (hst : st0 = As.reverse ++ st) (hw : (st.map fun v => v.category).sum ≤ 8) (hd : decode M.2.2.1 pc = .ok (.invokestatic idx, 3))
    (kk : ∀ (r : Option Value) (d' : zD), lQ d b v r d' → yV l x g M R (ce + 1) (sl + 6) F (pc + 3) L (r.toList ++ st) d') : yV l x g M R ce sl F pc L st0 d := by
  obtain ⟨p, e, s, m, args, below, meth, c, A⟩ := x
  intro ok H locs ls hP hD hS hl
  have ok' := ok
  have hpre := zpre (av := As) ok hP hD hS
  obtain ⟨hx, hb, hml, hown, hts, hr, hK, hAA, hlks, hao, ham⟩ := ok
  have hR : (yrm 9).frames + 1 ≤ R.frames ∧ 8 + (M'.2.2.2.1 + 11) + (yrm 9).locals ≤ R.locals := by
    simp only [yrm]
    omega
  subst hst
  refine yrun (mc := 1) (ms := 6) (Q' := lQ d b v) (a := As.toArray) (rest := st) ?_ ok' hD hS hl kk
  exact vx_runSW (hh := hH) (As := As) (rest := st) ⟨hx, hb, hml, hown, hts⟩ (hc H.size) (vx_cwSW k hts (zgood (fun w hw => by
    rcases List.mem_append.mp hw with hw | hw
    · simp only [List.mem_cons, List.not_mem_nil, or_false] at hw
      rcases hw with rfl | rfl | rfl
      · exact hlk
      · exact hstt
      · exact hini
    · rcases List.mem_cons.mp hw with rfl | hw
      · exact hcode
      · exact hw)) rfl rfl rfl hdd hR) hpre rfl hA hl.1 rfl (lv_room hw) hd hcs
end YLAW
theorem mot_in {h : Hl} (w : Wf h) {ord : Nat → Nat} (ho : Ord (hN h) ord) {a b : Int} (hG : motG h a b = true) : zin (motV h ord a b) := by
  rw [motG, Bool.and_eq_true] at hG
  have h1 := of_decide_eq_true hG.1
  have w3 := w.2.2.1
  have hm : a.toNat < hN h := by omega
  obtain ⟨a1, a2, a3, -⟩ := w.2.2.2.2.2.2.1 _ hm
  have hp := w.pa hm
  have hpl := (plc_is ho hm).1
  unfold motV
  repeat' split
  all_goals omega
theorem wei_in {h : Hl} (w : Wf h) {a b : Int} (hG : weiG h a b = true) : zin (weiV h a b) := by
  rw [weiG, Bool.and_eq_true] at hG
  have h1 := of_decide_eq_true hG.1
  have h2 := of_decide_eq_true hG.2
  have := w.2.2.2.2.2.2.2.1 (8 * a.toNat + b.toNat) (by omega)
  unfold weiV
  omega
theorem lik_in {h : Hl} (w : Wf h) {a b : Int} (hG : likG h a b = true) : zin (likV h a b) := by
  rw [likG, Bool.and_eq_true] at hG
  have h1 := of_decide_eq_true hG.1
  have := like_b w (v := a.toNat) b.toNat (by omega)
  unfold likV
  omega
theorem IC.o66 {d d' : zD} {h : Hl} {ord : Nat → Nat} {tl : Nat} {tp : Nat → Nat} {fl : Int} (I : IC d h ord tl tp fl) (e : ∀ p, p ≠ 66 → d' p = d p) : IC d' h ord tl tp fl := I.of (ps := [66]) (fun p hp => e p (fun z => hp (by rw [z]; decide))) (by decide)
theorem IM.o66 {d d' : zD} {h : Hl} {ord : Nat → Nat} {tl : Nat} {tp : Nat → Nat} {fl : Int} (I : IM d h ord tl tp fl) (e : ∀ p, p ≠ 66 → d' p = d p) : IM d' h ord tl tp fl := I.of (ps := [66]) (fun p hp => e p (fun z => hp (by rw [z]; decide))) (by decide) (by rw [e 37 (by decide)]) (by rw [e 37 (by decide)])
/-- what a case of the law goes on with -/
def lwN (l : Launch) (x : zX) (g : zG) (F : State → Prop) (b i ce sl : Nat) : Prop := ∀ (d : zD) (h : Hl) (ord : Nat → Nat) (tl : Nat) (tp : Nat → Nat) (fl : Int) (ce' sl' : Nat), ce' ≤ ce + 1 → sl' ≤ sl + 6 → IC d h ord tl tp fl → IM d h ord tl tp fl → yV l x g mLaw room_1 ce' sl' F 943 (lwL g b i) [] d
theorem law_feed (l : Launch) (hl0 : l.stackTraces = false) {x : zX} {g : zG} (hg : zAmOk g) {adK adV aX : Nat → Nat} (hs : zStr g adK adV) (hth : zThr g aX) {F : State → Prop} {b n i ce sl : Nat} {xs : Nat → Int32} (hX : yX x b n xs) (hn : n ≤ 3072) (hi : i + 6 ≤ n) (hcs : ce + 1 ≤ room_1.cells ∧ sl + 6 ≤ room_1.slots) {d : zD} {h : Hl} {ord : Nat → Nat} {tl : Nat} {tp : Nat → Nat} {fl : Int} (I : IC d h ord tl tp fl) (M : IM d h ord tl tp fl) (next : lwN l x g F b i ce sl) : yV l x g mLaw room_1 ce sl F 144 (lwL g b i) [] d := by
  refine y_aload_n 1 dL_law_144 rfl rfl ?_
  refine y_aloads_n 0 dL_law_145 rfl rfl ?_
  refine y_iload 4 dL_law_146 rfl ?_
  refine y_iconst dL_law_148 ?_
  refine y_iadd dL_law_149 ?_
  refine y_sld (i + 1) hX rfl (by omega) (by omega) dL_law_150 ?_
  refine y_aloads_n 0 dL_law_151 rfl rfl ?_
  refine y_iload 4 dL_law_152 rfl ?_
  refine y_iconst dL_law_154 ?_
  refine y_iadd dL_law_155 ?_
  refine y_sld (i + 2) hX rfl (by omega) (by omega) dL_law_156 ?_
  refine y_aloads_n 0 dL_law_157 rfl rfl ?_
  refine y_iload 4 dL_law_158 rfl ?_
  refine y_iconst dL_law_160 ?_
  refine y_iadd dL_law_161 ?_
  refine y_sld (i + 3) hX rfl (by omega) (by omega) dL_law_162 ?_
  refine y_aloads_n 0 dL_law_163 rfl rfl ?_
  refine y_iload 4 dL_law_164 rfl ?_
  refine y_iconst dL_law_166 ?_
  refine y_iadd dL_law_167 ?_
  refine y_sld (i + 4) hX rfl (by omega) (by omega) dL_law_168 ?_
  refine y_aloads_n 0 dL_law_169 rfl rfl ?_
  refine y_iload 4 dL_law_170 rfl ?_
  refine y_iconst dL_law_172 ?_
  refine y_iadd dL_law_173 ?_
  refine y_sld (i + 5) hX rfl (by omega) (by omega) dL_law_174 ?_
  refine y_cv (t_feed l hg I ) mk_X7_feed mi_X7_feed ml_RL_25 ⟨Nat.le_of_ble_eq_true rfl, Nat.le_of_ble_eq_true rfl⟩ ⟨Nat.le_of_succ_le hcs.1, Nat.le_trans (Nat.le_add_right _ 6) hcs.2⟩ (by decide) rfl rfl rfl rfl (Nat.le_of_ble_eq_true rfl) dL_law_175 (fun r1 d1 q1 => ?_)
  obtain ⟨rfl, c1, I1⟩ := q1
  have M1 := M.cf c1
  show yV l x g mLaw room_1 _ _ _ _ _ [_] _
  refine y_aload_n 2 dL_law_178 rfl rfl ?_
  refine y_aloads_n 0 dL_law_179 rfl rfl ?_
  refine y_iload 4 dL_law_180 rfl ?_
  refine y_iconst dL_law_182 ?_
  refine y_iadd dL_law_183 ?_
  refine y_sld (i + 1) hX rfl (by omega) (by omega) dL_law_184 ?_
  refine y_aloads_n 0 dL_law_185 rfl rfl ?_
  refine y_iload 4 dL_law_186 rfl ?_
  refine y_iconst dL_law_188 ?_
  refine y_iadd dL_law_189 ?_
  refine y_sld (i + 2) hX rfl (by omega) (by omega) dL_law_190 ?_
  refine y_aloads_n 0 dL_law_191 rfl rfl ?_
  refine y_iload 4 dL_law_192 rfl ?_
  refine y_iconst dL_law_194 ?_
  refine y_iadd dL_law_195 ?_
  refine y_sld (i + 3) hX rfl (by omega) (by omega) dL_law_196 ?_
  refine y_aloads_n 0 dL_law_197 rfl rfl ?_
  refine y_iload 4 dL_law_198 rfl ?_
  refine y_iconst dL_law_200 ?_
  refine y_iadd dL_law_201 ?_
  refine y_sld (i + 4) hX rfl (by omega) (by omega) dL_law_202 ?_
  refine y_aloads_n 0 dL_law_203 rfl rfl ?_
  refine y_iload 4 dL_law_204 rfl ?_
  refine y_iconst dL_law_206 ?_
  refine y_iadd dL_law_207 ?_
  refine y_sld (i + 5) hX rfl (by omega) (by omega) dL_law_208 ?_
  refine y_cv (t8_feed l hg M1 ) mk_X8_feed mi_X8_feed ml_RL_29 ⟨Nat.le_of_ble_eq_true rfl, Nat.le_of_ble_eq_true rfl⟩ ⟨Nat.le_of_succ_le hcs.1, Nat.le_trans (Nat.le_add_right _ 6) hcs.2⟩ (by decide) rfl rfl rfl rfl (Nat.le_of_ble_eq_true rfl) dL_law_209 (fun r2 d2 q2 => ?_)
  obtain ⟨rfl, m1, M2⟩ := q2
  have I2 := I1.mf m1
  show yV l x g mLaw room_1 _ _ _ _ _ [_, _] _
  refine y_icmp_same 943 dL_law_212 (by decide) ?_
  exact next d2 _ _ _ _ _ _ _ (Nat.le_succ _) (Nat.le_add_right _ 6) I2 M2
theorem law_end (l : Launch) (hl0 : l.stackTraces = false) {x : zX} {g : zG} (hg : zAmOk g) {adK adV aX : Nat → Nat} (hs : zStr g adK adV) (hth : zThr g aX) {F : State → Prop} {b n i ce sl : Nat} {xs : Nat → Int32} (hX : yX x b n xs) (hn : n ≤ 3072) (hi : i + 6 ≤ n) (hcs : ce + 1 ≤ room_1.cells ∧ sl + 6 ≤ room_1.slots) {d : zD} {h : Hl} {ord : Nat → Nat} {tl : Nat} {tp : Nat → Nat} {fl : Int} (I : IC d h ord tl tp fl) (M : IM d h ord tl tp fl) (next : lwN l x g F b i ce sl) : yV l x g mLaw room_1 ce sl F 217 (lwL g b i) [] d := by
  refine y_aload_n 1 dL_law_217 rfl rfl ?_
  refine y_aloads_n 0 dL_law_218 rfl rfl ?_
  refine y_iload 4 dL_law_219 rfl ?_
  refine y_iconst dL_law_221 ?_
  refine y_iadd dL_law_222 ?_
  refine y_sld (i + 1) hX rfl (by omega) (by omega) dL_law_223 ?_
  refine y_cv (t_end l hg I (sX_in xs (i + 1))) mk_X7_end mi_X7_end ml_RL_30 ⟨Nat.le_of_ble_eq_true rfl, Nat.le_of_ble_eq_true rfl⟩ ⟨Nat.le_of_succ_le hcs.1, Nat.le_trans (Nat.le_add_right _ 6) hcs.2⟩ (by decide) rfl rfl rfl rfl (Nat.le_of_ble_eq_true rfl) dL_law_224 (fun r1 d1 q1 => ?_)
  obtain ⟨rfl, c1, I1⟩ := q1
  have M1 := M.cf c1
  show yV l x g mLaw room_1 _ _ _ _ _ [_] _
  refine y_aload_n 2 dL_law_227 rfl rfl ?_
  refine y_aloads_n 0 dL_law_228 rfl rfl ?_
  refine y_iload 4 dL_law_229 rfl ?_
  refine y_iconst dL_law_231 ?_
  refine y_iadd dL_law_232 ?_
  refine y_sld (i + 1) hX rfl (by omega) (by omega) dL_law_233 ?_
  refine y_cv (t8_end l hg M1 (sX_in xs (i + 1))) mk_X8_end mi_X8_end ml_RL_34 ⟨Nat.le_of_ble_eq_true rfl, Nat.le_of_ble_eq_true rfl⟩ ⟨Nat.le_of_succ_le hcs.1, Nat.le_trans (Nat.le_add_right _ 6) hcs.2⟩ (by decide) rfl rfl rfl rfl (Nat.le_of_ble_eq_true rfl) dL_law_234 (fun r2 d2 q2 => ?_)
  obtain ⟨rfl, m1, M2⟩ := q2
  have I2 := I1.mf m1
  show yV l x g mLaw room_1 _ _ _ _ _ [_, _] _
  refine y_icmp_same 943 dL_law_237 (by decide) ?_
  exact next d2 _ _ _ _ _ _ _ (Nat.le_succ _) (Nat.le_add_right _ 6) I2 M2
theorem law_tell (l : Launch) (hl0 : l.stackTraces = false) {x : zX} {g : zG} (hg : zAmOk g) {adK adV aX : Nat → Nat} (hs : zStr g adK adV) (hth : zThr g aX) {F : State → Prop} {b n i ce sl : Nat} {xs : Nat → Int32} (hX : yX x b n xs) (hn : n ≤ 3072) (hi : i + 6 ≤ n) (hcs : ce + 1 ≤ room_1.cells ∧ sl + 6 ≤ room_1.slots) {d : zD} {h : Hl} {ord : Nat → Nat} {tl : Nat} {tp : Nat → Nat} {fl : Int} (I : IC d h ord tl tp fl) (M : IM d h ord tl tp fl) (next : lwN l x g F b i ce sl) : yV l x g mLaw room_1 ce sl F 242 (lwL g b i) [] d := by
  refine y_aload_n 1 dL_law_242 rfl rfl ?_
  refine y_cv (t_tell l hg hs I ) mk_X7_tell mi_X7_tell ml_RL_35 ⟨Nat.le_of_ble_eq_true rfl, Nat.le_of_ble_eq_true rfl⟩ ⟨Nat.le_of_succ_le hcs.1, Nat.le_trans (Nat.le_add_right _ 6) hcs.2⟩ (by decide) rfl rfl rfl rfl (Nat.le_of_ble_eq_true rfl) dL_law_243 (fun r1 d1 q1 => ?_)
  cases hR : spAll tp tl with
  | inl f =>
    rw [hR] at q1
    obtain ⟨rfl, c1, I1⟩ := q1
    have M1 := M.cf c1
    show yV l x g mLaw room_1 _ _ _ _ _ [_] _
    refine y_aload_n 2 dL_law_246 rfl rfl ?_
    refine y_cv (t8_tell l hg M1 ) mk_X8_tell mi_X8_tell ml_RL_39 ⟨Nat.le_of_ble_eq_true rfl, Nat.le_of_ble_eq_true rfl⟩ ⟨Nat.le_of_succ_le hcs.1, Nat.le_trans (Nat.le_add_right _ 6) hcs.2⟩ (by decide) rfl rfl rfl rfl (Nat.le_of_ble_eq_true rfl) dL_law_247 (fun r2 d2 q2 => ?_)
    rw [hR] at q2
    obtain ⟨rfl, m1, M2⟩ := q2
    have I2 := I1.mf m1
    show yV l x g mLaw room_1 _ _ _ _ _ [_, _] _
    refine y_icmp_same 943 dL_law_250 (by decide) ?_
    exact next d2 _ _ _ _ _ _ _ (Nat.le_succ _) (Nat.le_add_right _ 6) I2 M2
  | inr v =>
    rw [hR] at q1
    obtain ⟨rfl, c1, I1⟩ := q1
    have M1 := M.cf c1
    show yV l x g mLaw room_1 _ _ _ _ _ [_] _
    refine y_aload_n 2 dL_law_246 rfl rfl ?_
    refine y_cv (t8_tell l hg M1 ) mk_X8_tell mi_X8_tell ml_RL_39 ⟨Nat.le_of_ble_eq_true rfl, Nat.le_of_ble_eq_true rfl⟩ ⟨Nat.le_of_succ_le hcs.1, Nat.le_trans (Nat.le_add_right _ 6) hcs.2⟩ (by decide) rfl rfl rfl rfl (Nat.le_of_ble_eq_true rfl) dL_law_247 (fun r2 d2 q2 => ?_)
    rw [hR] at q2
    obtain ⟨rfl, m1, M2⟩ := q2
    have I2 := I1.mf m1
    show yV l x g mLaw room_1 _ _ _ _ _ [_, _] _
    refine y_icmp_same 943 dL_law_250 (by decide) ?_
    exact next d2 _ _ _ _ _ _ _ (Nat.le_succ _) (Nat.le_add_right _ 6) I2 M2
theorem law_fault (l : Launch) (hl0 : l.stackTraces = false) {x : zX} {g : zG} (hg : zAmOk g) {adK adV aX : Nat → Nat} (hs : zStr g adK adV) (hth : zThr g aX) {F : State → Prop} {b n i ce sl : Nat} {xs : Nat → Int32} (hX : yX x b n xs) (hn : n ≤ 3072) (hi : i + 6 ≤ n) (hcs : ce + 1 ≤ room_1.cells ∧ sl + 6 ≤ room_1.slots) {d : zD} {h : Hl} {ord : Nat → Nat} {tl : Nat} {tp : Nat → Nat} {fl : Int} (I : IC d h ord tl tp fl) (M : IM d h ord tl tp fl) (next : lwN l x g F b i ce sl) : yV l x g mLaw room_1 ce sl F 255 (lwL g b i) [] d := by
  refine y_aload_n 1 dL_law_255 rfl rfl ?_
  refine y_cv (t_fault l hg I ) mk_X7_fault mi_X7_fault ml_RL_40 ⟨Nat.le_of_ble_eq_true rfl, Nat.le_of_ble_eq_true rfl⟩ ⟨Nat.le_of_succ_le hcs.1, Nat.le_trans (Nat.le_add_right _ 6) hcs.2⟩ (by decide) rfl rfl rfl rfl (Nat.le_of_ble_eq_true rfl) dL_law_256 (fun r1 d1 q1 => ?_)
  obtain ⟨rfl, c1, I1⟩ := q1
  have M1 := M.cf c1
  show yV l x g mLaw room_1 _ _ _ _ _ [_] _
  refine y_aload_n 2 dL_law_259 rfl rfl ?_
  refine y_cv (t8_fault l hg M1 ) mk_X8_fault mi_X8_fault ml_RL_43 ⟨Nat.le_of_ble_eq_true rfl, Nat.le_of_ble_eq_true rfl⟩ ⟨Nat.le_of_succ_le hcs.1, Nat.le_trans (Nat.le_add_right _ 6) hcs.2⟩ (by decide) rfl rfl rfl rfl (Nat.le_of_ble_eq_true rfl) dL_law_260 (fun r2 d2 q2 => ?_)
  obtain ⟨rfl, m1, M2⟩ := q2
  have I2 := I1.mf m1
  show yV l x g mLaw room_1 _ _ _ _ _ [_, _] _
  refine y_icmp_same 943 dL_law_263 (by decide) ?_
  exact next d2 _ _ _ _ _ _ _ (Nat.le_succ _) (Nat.le_add_right _ 6) I2 M2
theorem law_weigh (l : Launch) (hl0 : l.stackTraces = false) {x : zX} {g : zG} (hg : zAmOk g) {adK adV aX : Nat → Nat} (hs : zStr g adK adV) (hth : zThr g aX) {F : State → Prop} {b n i ce sl : Nat} {xs : Nat → Int32} (hX : yX x b n xs) (hn : n ≤ 3072) (hi : i + 6 ≤ n) (hcs : ce + 1 ≤ room_1.cells ∧ sl + 6 ≤ room_1.slots) {d : zD} {h : Hl} {ord : Nat → Nat} {tl : Nat} {tp : Nat → Nat} {fl : Int} (I : IC d h ord tl tp fl) (M : IM d h ord tl tp fl) (next : lwN l x g F b i ce sl) : yV l x g mLaw room_1 ce sl F 268 (lwL g b i) [] d := by
  refine y_aload_n 1 dL_law_268 rfl rfl ?_
  refine y_aloads_n 0 dL_law_269 rfl rfl ?_
  refine y_iload 4 dL_law_270 rfl ?_
  refine y_iconst dL_law_272 ?_
  refine y_iadd dL_law_273 ?_
  refine y_sld (i + 1) hX rfl (by omega) (by omega) dL_law_274 ?_
  refine y_aloads_n 0 dL_law_275 rfl rfl ?_
  refine y_iload 4 dL_law_276 rfl ?_
  refine y_iconst dL_law_278 ?_
  refine y_iadd dL_law_279 ?_
  refine y_sld (i + 2) hX rfl (by omega) (by omega) dL_law_280 ?_
  refine y_aloads_n 0 dL_law_281 rfl rfl ?_
  refine y_iload 4 dL_law_282 rfl ?_
  refine y_iconst dL_law_284 ?_
  refine y_iadd dL_law_285 ?_
  refine y_sld (i + 3) hX rfl (by omega) (by omega) dL_law_286 ?_
  refine y_cv (t_weigh l hg I (sX_in xs (i + 1)) (sX_in xs (i + 2)) (sX_in xs (i + 3))) mk_X7_weigh mi_X7_weigh ml_RL_44 ⟨Nat.le_of_ble_eq_true rfl, Nat.le_of_ble_eq_true rfl⟩ ⟨Nat.le_of_succ_le hcs.1, Nat.le_trans (Nat.le_add_right _ 6) hcs.2⟩ (by decide) rfl rfl rfl rfl (Nat.le_of_ble_eq_true rfl) dL_law_287 (fun r1 d1 q1 => ?_)
  obtain ⟨rfl, c1, I1⟩ := q1
  have M1 := M.cf c1
  show yV l x g mLaw room_1 _ _ _ _ _ [_] _
  refine y_aload_n 2 dL_law_290 rfl rfl ?_
  refine y_aloads_n 0 dL_law_291 rfl rfl ?_
  refine y_iload 4 dL_law_292 rfl ?_
  refine y_iconst dL_law_294 ?_
  refine y_iadd dL_law_295 ?_
  refine y_sld (i + 1) hX rfl (by omega) (by omega) dL_law_296 ?_
  refine y_aloads_n 0 dL_law_297 rfl rfl ?_
  refine y_iload 4 dL_law_298 rfl ?_
  refine y_iconst dL_law_300 ?_
  refine y_iadd dL_law_301 ?_
  refine y_sld (i + 2) hX rfl (by omega) (by omega) dL_law_302 ?_
  refine y_aloads_n 0 dL_law_303 rfl rfl ?_
  refine y_iload 4 dL_law_304 rfl ?_
  refine y_iconst dL_law_306 ?_
  refine y_iadd dL_law_307 ?_
  refine y_sld (i + 3) hX rfl (by omega) (by omega) dL_law_308 ?_
  refine y_cv (t8_weigh l hg M1 (sX_in xs (i + 1)) (sX_in xs (i + 2)) (sX_in xs (i + 3))) mk_X8_weigh mi_X8_weigh ml_RL_48 ⟨Nat.le_of_ble_eq_true rfl, Nat.le_of_ble_eq_true rfl⟩ ⟨Nat.le_of_succ_le hcs.1, Nat.le_trans (Nat.le_add_right _ 6) hcs.2⟩ (by decide) rfl rfl rfl rfl (Nat.le_of_ble_eq_true rfl) dL_law_309 (fun r2 d2 q2 => ?_)
  obtain ⟨rfl, m1, M2⟩ := q2
  have I2 := I1.mf m1
  show yV l x g mLaw room_1 _ _ _ _ _ [_, _] _
  refine y_icmp_same 943 dL_law_312 (by decide) ?_
  exact next d2 _ _ _ _ _ _ _ (Nat.le_succ _) (Nat.le_add_right _ 6) I2 M2
theorem law_order (l : Launch) (hl0 : l.stackTraces = false) {x : zX} {g : zG} (hg : zAmOk g) {adK adV aX : Nat → Nat} (hs : zStr g adK adV) (hth : zThr g aX) {F : State → Prop} {b n i ce sl : Nat} {xs : Nat → Int32} (hX : yX x b n xs) (hn : n ≤ 3072) (hi : i + 6 ≤ n) (hcs : ce + 1 ≤ room_1.cells ∧ sl + 6 ≤ room_1.slots) {d : zD} {h : Hl} {ord : Nat → Nat} {tl : Nat} {tp : Nat → Nat} {fl : Int} (I : IC d h ord tl tp fl) (M : IM d h ord tl tp fl) (next : lwN l x g F b i ce sl) : yV l x g mLaw room_1 ce sl F 317 (lwL g b i) [] d := by
  refine y_aload_n 1 dL_law_317 rfl rfl ?_
  refine y_aloads_n 0 dL_law_318 rfl rfl ?_
  refine y_iload 4 dL_law_319 rfl ?_
  refine y_iconst dL_law_321 ?_
  refine y_iadd dL_law_322 ?_
  refine y_sld (i + 1) hX rfl (by omega) (by omega) dL_law_323 ?_
  refine y_cv (t_order l hg I (sX_in xs (i + 1))) mk_X7_order mi_X7_order ml_RL_49 ⟨Nat.le_of_ble_eq_true rfl, Nat.le_of_ble_eq_true rfl⟩ ⟨Nat.le_of_succ_le hcs.1, Nat.le_trans (Nat.le_add_right _ 6) hcs.2⟩ (by decide) rfl rfl rfl rfl (Nat.le_of_ble_eq_true rfl) dL_law_324 (fun r1 d1 q1 => ?_)
  obtain ⟨rfl, c1, I1⟩ := q1
  have M1 := M.cf c1
  show yV l x g mLaw room_1 _ _ _ _ _ [_] _
  refine y_aload_n 2 dL_law_327 rfl rfl ?_
  refine y_aloads_n 0 dL_law_328 rfl rfl ?_
  refine y_iload 4 dL_law_329 rfl ?_
  refine y_iconst dL_law_331 ?_
  refine y_iadd dL_law_332 ?_
  refine y_sld (i + 1) hX rfl (by omega) (by omega) dL_law_333 ?_
  refine y_cv (t8_order l hg M1 (sX_in xs (i + 1))) mk_X8_order mi_X8_order ml_RL_52 ⟨Nat.le_of_ble_eq_true rfl, Nat.le_of_ble_eq_true rfl⟩ ⟨Nat.le_of_succ_le hcs.1, Nat.le_trans (Nat.le_add_right _ 6) hcs.2⟩ (by decide) rfl rfl rfl rfl (Nat.le_of_ble_eq_true rfl) dL_law_334 (fun r2 d2 q2 => ?_)
  obtain ⟨rfl, m1, M2⟩ := q2
  have I2 := I1.mf m1
  show yV l x g mLaw room_1 _ _ _ _ _ [_, _] _
  refine y_icmp_same 943 dL_law_337 (by decide) ?_
  exact next d2 _ _ _ _ _ _ _ (Nat.le_succ _) (Nat.le_add_right _ 6) I2 M2
theorem law_count (l : Launch) (hl0 : l.stackTraces = false) {x : zX} {g : zG} (hg : zAmOk g) {adK adV aX : Nat → Nat} (hs : zStr g adK adV) (hth : zThr g aX) {F : State → Prop} {b n i ce sl : Nat} {xs : Nat → Int32} (hX : yX x b n xs) (hn : n ≤ 3072) (hi : i + 6 ≤ n) (hcs : ce + 1 ≤ room_1.cells ∧ sl + 6 ≤ room_1.slots) {d : zD} {h : Hl} {ord : Nat → Nat} {tl : Nat} {tp : Nat → Nat} {fl : Int} (I : IC d h ord tl tp fl) (M : IM d h ord tl tp fl) (next : lwN l x g F b i ce sl) : yV l x g mLaw room_1 ce sl F 342 (lwL g b i) [] d := by
  refine y_aload_n 1 dL_law_342 rfl rfl ?_
  refine y_aloads_n 0 dL_law_343 rfl rfl ?_
  refine y_iload 4 dL_law_344 rfl ?_
  refine y_iconst dL_law_346 ?_
  refine y_iadd dL_law_347 ?_
  refine y_sld (i + 1) hX rfl (by omega) (by omega) dL_law_348 ?_
  refine y_cv (t_count l hg I (sX_in xs (i + 1))) mk_X7_count mi_X7_count ml_RL_53 ⟨Nat.le_of_ble_eq_true rfl, Nat.le_of_ble_eq_true rfl⟩ ⟨Nat.le_of_succ_le hcs.1, Nat.le_trans (Nat.le_add_right _ 6) hcs.2⟩ (by decide) rfl rfl rfl rfl (Nat.le_of_ble_eq_true rfl) dL_law_349 (fun r1 d1 q1 => ?_)
  obtain ⟨rfl, c1, I1⟩ := q1
  have M1 := M.cf c1
  show yV l x g mLaw room_1 _ _ _ _ _ [_] _
  refine y_aload_n 2 dL_law_352 rfl rfl ?_
  refine y_aloads_n 0 dL_law_353 rfl rfl ?_
  refine y_iload 4 dL_law_354 rfl ?_
  refine y_iconst dL_law_356 ?_
  refine y_iadd dL_law_357 ?_
  refine y_sld (i + 1) hX rfl (by omega) (by omega) dL_law_358 ?_
  refine y_cv (t8_count l hg M1 (sX_in xs (i + 1))) mk_X8_count mi_X8_count ml_RL_57 ⟨Nat.le_of_ble_eq_true rfl, Nat.le_of_ble_eq_true rfl⟩ ⟨Nat.le_of_succ_le hcs.1, Nat.le_trans (Nat.le_add_right _ 6) hcs.2⟩ (by decide) rfl rfl rfl rfl (Nat.le_of_ble_eq_true rfl) dL_law_359 (fun r2 d2 q2 => ?_)
  obtain ⟨rfl, m1, M2⟩ := q2
  have I2 := I1.mf m1
  show yV l x g mLaw room_1 _ _ _ _ _ [_, _] _
  refine y_icmp_same 943 dL_law_362 (by decide) ?_
  exact next d2 _ _ _ _ _ _ _ (Nat.le_succ _) (Nat.le_add_right _ 6) I2 M2
theorem law_motion (l : Launch) (hl0 : l.stackTraces = false) {x : zX} {g : zG} (hg : zAmOk g) {adK adV aX : Nat → Nat} (hs : zStr g adK adV) (hth : zThr g aX) {F : State → Prop} {b n i ce sl : Nat} {xs : Nat → Int32} (hX : yX x b n xs) (hn : n ≤ 3072) (hi : i + 6 ≤ n) (hcs : ce + 1 ≤ room_1.cells ∧ sl + 6 ≤ room_1.slots) {d : zD} {h : Hl} {ord : Nat → Nat} {tl : Nat} {tp : Nat → Nat} {fl : Int} (I : IC d h ord tl tp fl) (M : IM d h ord tl tp fl) (next : lwN l x g F b i ce sl) : yV l x g mLaw room_1 ce sl F 367 (lwL g b i) [] d := by
  refine y_aload_n 1 dL_law_367 rfl rfl ?_
  refine y_aloads_n 0 dL_law_368 rfl rfl ?_
  refine y_iload 4 dL_law_369 rfl ?_
  refine y_iconst dL_law_371 ?_
  refine y_iadd dL_law_372 ?_
  refine y_sld (i + 1) hX rfl (by omega) (by omega) dL_law_373 ?_
  refine y_aloads_n 0 dL_law_374 rfl rfl ?_
  refine y_iload 4 dL_law_375 rfl ?_
  refine y_iconst dL_law_377 ?_
  refine y_iadd dL_law_378 ?_
  refine y_sld (i + 2) hX rfl (by omega) (by omega) dL_law_379 ?_
  refine y_aload_n 3 dL_law_380 rfl rfl ?_
  refine y_csh (k := 4) (t_L_motion l hl0 hg hth I (sX_in xs (i + 1)) (sX_in xs (i + 2)) (fun z => mot_in I.1 I.2.2.2.2.2.2.1 z)) (zTB_in 947 (by decide +kernel) rfl) (zTB_in 131 (by decide +kernel) rfl) (zTB_in 946 (by decide +kernel) rfl) (zTB_in 945 (by decide +kernel) rfl) (by decide) (by decide +kernel) ⟨Nat.le_of_ble_eq_true rfl, Nat.le_of_ble_eq_true rfl⟩ hcs rfl rfl (Nat.le_of_ble_eq_true rfl) dL_law_381 (fun r1 d1 q1 => ?_)
  obtain ⟨rfl, e1, e2⟩ := q1
  have I1 := I.o66 e1
  have M1 := M.o66 e1
  show yV l x g mLaw room_1 _ _ _ _ _ [_] _
  refine y_istore (L' := [(0, _), (1, _), (2, _), (3, _), (4, _), (5, _)]) dL_law_384 (by decide) rfl rfl ?_
  refine y_aload_n 2 dL_law_386 rfl rfl ?_
  refine y_aloads_n 0 dL_law_387 rfl rfl ?_
  refine y_iload 4 dL_law_388 rfl ?_
  refine y_iconst dL_law_390 ?_
  refine y_iadd dL_law_391 ?_
  refine y_sld (i + 1) hX rfl (by omega) (by omega) dL_law_392 ?_
  refine y_aloads_n 0 dL_law_393 rfl rfl ?_
  refine y_iload 4 dL_law_394 rfl ?_
  refine y_iconst dL_law_396 ?_
  refine y_iadd dL_law_397 ?_
  refine y_sld (i + 2) hX rfl (by omega) (by omega) dL_law_398 ?_
  refine y_cv (t8_motion l hg M1 (sX_in xs (i + 1)) (sX_in xs (i + 2))) mk_X8_motion mi_X8_motion ml_RL_63 ⟨Nat.le_of_ble_eq_true rfl, Nat.le_of_ble_eq_true rfl⟩ hcs (by decide) rfl rfl rfl rfl (Nat.le_of_ble_eq_true rfl) dL_law_399 (fun r2 d2 q2 => ?_)
  obtain ⟨rfl, e3, m1, M2⟩ := q2
  have I2 := I1.mf m1
  show yV l x g mLaw room_1 _ _ _ _ _ [_] _
  refine y_istore (L' := [(0, _), (1, _), (2, _), (3, _), (4, _), (5, _), (6, _)]) dL_law_402 (by decide) rfl rfl ?_
  refine y_aload_n 2 dL_law_404 rfl rfl ?_
  refine y_cv (t8_thrown l hg d2) mk_X8_thrown mi_X8_thrown ml_RL_64 ⟨Nat.le_of_ble_eq_true rfl, Nat.le_of_ble_eq_true rfl⟩ hcs (by decide) rfl rfl rfl rfl (Nat.le_of_ble_eq_true rfl) dL_law_405 (ypure ?_)
  rw [e3]
  refine y_iload 5 dL_law_408 rfl ?_
  refine y_icmp_same 415 dL_law_410 (by decide) ?_
  refine y_iload 5 dL_law_415 rfl ?_
  cases hG : motG h (sX xs (i + 1)) (sX xs (i + 2)) with
  | true =>
    have hv := mot_in I.1 I.2.2.2.2.2.2.1 hG
    refine y_top 0 rfl ?_
    refine y_if_ne 432 (by decide) dL_law_417 (by decide) (fun z => absurd rfl z) (fun _ => ?_)
    refine y_aload_n 3 dL_law_420 rfl rfl ?_
    refine y_iconst dL_law_421 ?_
    refine y_lald 0 (by decide) rfl rfl (by decide) (by decide) dL_law_422 ?_
    rw [show d2 66 0 = motV h ord (sX xs (i + 1)) (sX xs (i + 2)) by rw [m1 66 (by decide)]; exact e2 hG]
    refine y_iload 6 dL_law_423 rfl ?_
    refine y_top (motV h ord (sX xs (i + 1)) (sX xs (i + 2))) rfl ?_
    refine y_i2l hv dL_law_425 ?_
    refine y_lcmp (by omega) (by omega) dL_law_426 ?_
    refine y_top 0 (by rw [if_neg (by omega), if_pos rfl]) ?_
    refine y_if_eq 432 (by decide) dL_law_427 (by decide) (fun _ => ?_) (fun z => absurd rfl z)
    refine y_goto 943 dL_law_432 (by decide) ?_
    exact y_sub (L' := lwL g b i) [0, 1, 2, 3, 4] rfl (next d2 h ord tl tp fl _ _ (Nat.le_refl _) (Nat.le_refl _) I2 M2)
  | false =>
    refine y_top 1 rfl ?_
    refine y_if_ne 432 (by decide) dL_law_417 (by decide) (fun _ => ?_) (fun z => absurd z (by decide))
    refine y_goto 943 dL_law_432 (by decide) ?_
    exact y_sub (L' := lwL g b i) [0, 1, 2, 3, 4] rfl (next d2 h ord tl tp fl _ _ (Nat.le_refl _) (Nat.le_refl _) I2 M2)
theorem law_weight (l : Launch) (hl0 : l.stackTraces = false) {x : zX} {g : zG} (hg : zAmOk g) {adK adV aX : Nat → Nat} (hs : zStr g adK adV) (hth : zThr g aX) {F : State → Prop} {b n i ce sl : Nat} {xs : Nat → Int32} (hX : yX x b n xs) (hn : n ≤ 3072) (hi : i + 6 ≤ n) (hcs : ce + 1 ≤ room_1.cells ∧ sl + 6 ≤ room_1.slots) {d : zD} {h : Hl} {ord : Nat → Nat} {tl : Nat} {tp : Nat → Nat} {fl : Int} (I : IC d h ord tl tp fl) (M : IM d h ord tl tp fl) (next : lwN l x g F b i ce sl) : yV l x g mLaw room_1 ce sl F 435 (lwL g b i) [] d := by
  refine y_aload_n 1 dL_law_435 rfl rfl ?_
  refine y_aloads_n 0 dL_law_436 rfl rfl ?_
  refine y_iload 4 dL_law_437 rfl ?_
  refine y_iconst dL_law_439 ?_
  refine y_iadd dL_law_440 ?_
  refine y_sld (i + 1) hX rfl (by omega) (by omega) dL_law_441 ?_
  refine y_aloads_n 0 dL_law_442 rfl rfl ?_
  refine y_iload 4 dL_law_443 rfl ?_
  refine y_iconst dL_law_445 ?_
  refine y_iadd dL_law_446 ?_
  refine y_sld (i + 2) hX rfl (by omega) (by omega) dL_law_447 ?_
  refine y_aload_n 3 dL_law_448 rfl rfl ?_
  refine y_csh (k := 4) (t_L_weight l hl0 hg hth I (sX_in xs (i + 1)) (sX_in xs (i + 2)) (fun z => wei_in I.1 z)) (zTB_in 1025 (by decide +kernel) rfl) (zTB_in 131 (by decide +kernel) rfl) (zTB_in 1024 (by decide +kernel) rfl) (zTB_in 1023 (by decide +kernel) rfl) (by decide) (by decide +kernel) ⟨Nat.le_of_ble_eq_true rfl, Nat.le_of_ble_eq_true rfl⟩ hcs rfl rfl (Nat.le_of_ble_eq_true rfl) dL_law_449 (fun r1 d1 q1 => ?_)
  obtain ⟨rfl, e1, e2⟩ := q1
  have I1 := I.o66 e1
  have M1 := M.o66 e1
  show yV l x g mLaw room_1 _ _ _ _ _ [_] _
  refine y_istore (L' := [(0, _), (1, _), (2, _), (3, _), (4, _), (5, _)]) dL_law_452 (by decide) rfl rfl ?_
  refine y_aload_n 2 dL_law_454 rfl rfl ?_
  refine y_aloads_n 0 dL_law_455 rfl rfl ?_
  refine y_iload 4 dL_law_456 rfl ?_
  refine y_iconst dL_law_458 ?_
  refine y_iadd dL_law_459 ?_
  refine y_sld (i + 1) hX rfl (by omega) (by omega) dL_law_460 ?_
  refine y_aloads_n 0 dL_law_461 rfl rfl ?_
  refine y_iload 4 dL_law_462 rfl ?_
  refine y_iconst dL_law_464 ?_
  refine y_iadd dL_law_465 ?_
  refine y_sld (i + 2) hX rfl (by omega) (by omega) dL_law_466 ?_
  refine y_cv (t8_weight l hg M1 (sX_in xs (i + 1)) (sX_in xs (i + 2))) mk_X8_weight mi_X8_weight ml_RL_69 ⟨Nat.le_of_ble_eq_true rfl, Nat.le_of_ble_eq_true rfl⟩ hcs (by decide) rfl rfl rfl rfl (Nat.le_of_ble_eq_true rfl) dL_law_467 (fun r2 d2 q2 => ?_)
  obtain ⟨rfl, e3, m1, M2⟩ := q2
  have I2 := I1.mf m1
  show yV l x g mLaw room_1 _ _ _ _ _ [_] _
  refine y_istore (L' := [(0, _), (1, _), (2, _), (3, _), (4, _), (5, _), (6, _)]) dL_law_470 (by decide) rfl rfl ?_
  refine y_aload_n 2 dL_law_472 rfl rfl ?_
  refine y_cv (t8_thrown l hg d2) mk_X8_thrown mi_X8_thrown ml_RL_64 ⟨Nat.le_of_ble_eq_true rfl, Nat.le_of_ble_eq_true rfl⟩ hcs (by decide) rfl rfl rfl rfl (Nat.le_of_ble_eq_true rfl) dL_law_473 (ypure ?_)
  rw [e3]
  refine y_iload 5 dL_law_476 rfl ?_
  refine y_icmp_same 483 dL_law_478 (by decide) ?_
  refine y_iload 5 dL_law_483 rfl ?_
  cases hG : weiG h (sX xs (i + 1)) (sX xs (i + 2)) with
  | true =>
    have hv := wei_in I.1 hG
    refine y_top 0 rfl ?_
    refine y_if_ne 500 (by decide) dL_law_485 (by decide) (fun z => absurd rfl z) (fun _ => ?_)
    refine y_aload_n 3 dL_law_488 rfl rfl ?_
    refine y_iconst dL_law_489 ?_
    refine y_lald 0 (by decide) rfl rfl (by decide) (by decide) dL_law_490 ?_
    rw [show d2 66 0 = weiV h (sX xs (i + 1)) (sX xs (i + 2)) by rw [m1 66 (by decide)]; exact e2 hG]
    refine y_iload 6 dL_law_491 rfl ?_
    refine y_top (weiV h (sX xs (i + 1)) (sX xs (i + 2))) rfl ?_
    refine y_i2l hv dL_law_493 ?_
    refine y_lcmp (by omega) (by omega) dL_law_494 ?_
    refine y_top 0 (by rw [if_neg (by omega), if_pos rfl]) ?_
    refine y_if_eq 500 (by decide) dL_law_495 (by decide) (fun _ => ?_) (fun z => absurd rfl z)
    refine y_goto 943 dL_law_500 (by decide) ?_
    exact y_sub (L' := lwL g b i) [0, 1, 2, 3, 4] rfl (next d2 h ord tl tp fl _ _ (Nat.le_refl _) (Nat.le_refl _) I2 M2)
  | false =>
    refine y_top 1 rfl ?_
    refine y_if_ne 500 (by decide) dL_law_485 (by decide) (fun _ => ?_) (fun z => absurd z (by decide))
    refine y_goto 943 dL_law_500 (by decide) ?_
    exact y_sub (L' := lwL g b i) [0, 1, 2, 3, 4] rfl (next d2 h ord tl tp fl _ _ (Nat.le_refl _) (Nat.le_refl _) I2 M2)
theorem law_likes (l : Launch) (hl0 : l.stackTraces = false) {x : zX} {g : zG} (hg : zAmOk g) {adK adV aX : Nat → Nat} (hs : zStr g adK adV) (hth : zThr g aX) {F : State → Prop} {b n i ce sl : Nat} {xs : Nat → Int32} (hX : yX x b n xs) (hn : n ≤ 3072) (hi : i + 6 ≤ n) (hcs : ce + 1 ≤ room_1.cells ∧ sl + 6 ≤ room_1.slots) {d : zD} {h : Hl} {ord : Nat → Nat} {tl : Nat} {tp : Nat → Nat} {fl : Int} (I : IC d h ord tl tp fl) (M : IM d h ord tl tp fl) (next : lwN l x g F b i ce sl) : yV l x g mLaw room_1 ce sl F 503 (lwL g b i) [] d := by
  refine y_aload_n 1 dL_law_503 rfl rfl ?_
  refine y_aloads_n 0 dL_law_504 rfl rfl ?_
  refine y_iload 4 dL_law_505 rfl ?_
  refine y_iconst dL_law_507 ?_
  refine y_iadd dL_law_508 ?_
  refine y_sld (i + 1) hX rfl (by omega) (by omega) dL_law_509 ?_
  refine y_aloads_n 0 dL_law_510 rfl rfl ?_
  refine y_iload 4 dL_law_511 rfl ?_
  refine y_iconst dL_law_513 ?_
  refine y_iadd dL_law_514 ?_
  refine y_sld (i + 2) hX rfl (by omega) (by omega) dL_law_515 ?_
  refine y_aload_n 3 dL_law_516 rfl rfl ?_
  refine y_csh (k := 4) (t_L_likes l hl0 hg hth I (sX_in xs (i + 1)) (sX_in xs (i + 2)) (fun z => lik_in I.1 z)) (zTB_in 1033 (by decide +kernel) rfl) (zTB_in 131 (by decide +kernel) rfl) (zTB_in 1032 (by decide +kernel) rfl) (zTB_in 1031 (by decide +kernel) rfl) (by decide) (by decide +kernel) ⟨Nat.le_of_ble_eq_true rfl, Nat.le_of_ble_eq_true rfl⟩ hcs rfl rfl (Nat.le_of_ble_eq_true rfl) dL_law_517 (fun r1 d1 q1 => ?_)
  obtain ⟨rfl, e1, e2⟩ := q1
  have I1 := I.o66 e1
  have M1 := M.o66 e1
  show yV l x g mLaw room_1 _ _ _ _ _ [_] _
  refine y_istore (L' := [(0, _), (1, _), (2, _), (3, _), (4, _), (5, _)]) dL_law_520 (by decide) rfl rfl ?_
  refine y_aload_n 2 dL_law_522 rfl rfl ?_
  refine y_aloads_n 0 dL_law_523 rfl rfl ?_
  refine y_iload 4 dL_law_524 rfl ?_
  refine y_iconst dL_law_526 ?_
  refine y_iadd dL_law_527 ?_
  refine y_sld (i + 1) hX rfl (by omega) (by omega) dL_law_528 ?_
  refine y_aloads_n 0 dL_law_529 rfl rfl ?_
  refine y_iload 4 dL_law_530 rfl ?_
  refine y_iconst dL_law_532 ?_
  refine y_iadd dL_law_533 ?_
  refine y_sld (i + 2) hX rfl (by omega) (by omega) dL_law_534 ?_
  refine y_cv (t8_likes l hg M1 (sX_in xs (i + 1)) (sX_in xs (i + 2))) mk_X8_likes mi_X8_likes ml_RL_72 ⟨Nat.le_of_ble_eq_true rfl, Nat.le_of_ble_eq_true rfl⟩ hcs (by decide) rfl rfl rfl rfl (Nat.le_of_ble_eq_true rfl) dL_law_535 (fun r2 d2 q2 => ?_)
  obtain ⟨rfl, e3, m1, M2⟩ := q2
  have I2 := I1.mf m1
  show yV l x g mLaw room_1 _ _ _ _ _ [_] _
  refine y_istore (L' := [(0, _), (1, _), (2, _), (3, _), (4, _), (5, _), (6, _)]) dL_law_538 (by decide) rfl rfl ?_
  refine y_aload_n 2 dL_law_540 rfl rfl ?_
  refine y_cv (t8_thrown l hg d2) mk_X8_thrown mi_X8_thrown ml_RL_64 ⟨Nat.le_of_ble_eq_true rfl, Nat.le_of_ble_eq_true rfl⟩ hcs (by decide) rfl rfl rfl rfl (Nat.le_of_ble_eq_true rfl) dL_law_541 (ypure ?_)
  rw [e3]
  refine y_iload 5 dL_law_544 rfl ?_
  refine y_icmp_same 551 dL_law_546 (by decide) ?_
  refine y_iload 5 dL_law_551 rfl ?_
  cases hG : likG h (sX xs (i + 1)) (sX xs (i + 2)) with
  | true =>
    have hv := lik_in I.1 hG
    refine y_top 0 rfl ?_
    refine y_if_ne 568 (by decide) dL_law_553 (by decide) (fun z => absurd rfl z) (fun _ => ?_)
    refine y_aload_n 3 dL_law_556 rfl rfl ?_
    refine y_iconst dL_law_557 ?_
    refine y_lald 0 (by decide) rfl rfl (by decide) (by decide) dL_law_558 ?_
    rw [show d2 66 0 = likV h (sX xs (i + 1)) (sX xs (i + 2)) by rw [m1 66 (by decide)]; exact e2 hG]
    refine y_iload 6 dL_law_559 rfl ?_
    refine y_top (likV h (sX xs (i + 1)) (sX xs (i + 2))) rfl ?_
    refine y_i2l hv dL_law_561 ?_
    refine y_lcmp (by omega) (by omega) dL_law_562 ?_
    refine y_top 0 (by rw [if_neg (by omega), if_pos rfl]) ?_
    refine y_if_eq 568 (by decide) dL_law_563 (by decide) (fun _ => ?_) (fun z => absurd rfl z)
    refine y_goto 943 dL_law_568 (by decide) ?_
    exact y_sub (L' := lwL g b i) [0, 1, 2, 3, 4] rfl (next d2 h ord tl tp fl _ _ (Nat.le_refl _) (Nat.le_refl _) I2 M2)
  | false =>
    refine y_top 1 rfl ?_
    refine y_if_ne 568 (by decide) dL_law_553 (by decide) (fun _ => ?_) (fun z => absurd z (by decide))
    refine y_goto 943 dL_law_568 (by decide) ?_
    exact y_sub (L' := lwL g b i) [0, 1, 2, 3, 4] rfl (next d2 h ord tl tp fl _ _ (Nat.le_refl _) (Nat.le_refl _) I2 M2)
theorem law_form (l : Launch) (hl0 : l.stackTraces = false) {x : zX} {g : zG} (hg : zAmOk g) {adK adV aX : Nat → Nat} (hs : zStr g adK adV) (hth : zThr g aX) {F : State → Prop} {b n i ce sl : Nat} {xs : Nat → Int32} (hX : yX x b n xs) (hn : n ≤ 3072) (hi : i + 6 ≤ n) (hcs : ce + 1 ≤ room_1.cells ∧ sl + 6 ≤ room_1.slots) {d : zD} {h : Hl} {ord : Nat → Nat} {tl : Nat} {tp : Nat → Nat} {fl : Int} (I : IC d h ord tl tp fl) (M : IM d h ord tl tp fl) (next : lwN l x g F b i ce sl) : yV l x g mLaw room_1 ce sl F 571 (lwL g b i) [] d := by
  refine y_aload_n 1 dL_law_571 rfl rfl ?_
  refine y_aloads_n 0 dL_law_572 rfl rfl ?_
  refine y_iload 4 dL_law_573 rfl ?_
  refine y_iconst dL_law_575 ?_
  refine y_iadd dL_law_576 ?_
  refine y_sld (i + 1) hX rfl (by omega) (by omega) dL_law_577 ?_
  refine y_cv (t_form l hg I (sX_in xs (i + 1))) mk_X7_form mi_X7_form ml_RL_73 ⟨Nat.le_of_ble_eq_true rfl, Nat.le_of_ble_eq_true rfl⟩ ⟨Nat.le_of_succ_le hcs.1, Nat.le_trans (Nat.le_add_right _ 6) hcs.2⟩ (by decide) rfl rfl rfl rfl (Nat.le_of_ble_eq_true rfl) dL_law_578 (fun r1 d1 q1 => ?_)
  obtain ⟨rfl, c1, I1⟩ := q1
  have M1 := M.cf c1
  show yV l x g mLaw room_1 _ _ _ _ _ [_] _
  refine y_aload_n 2 dL_law_581 rfl rfl ?_
  refine y_aloads_n 0 dL_law_582 rfl rfl ?_
  refine y_iload 4 dL_law_583 rfl ?_
  refine y_iconst dL_law_585 ?_
  refine y_iadd dL_law_586 ?_
  refine y_sld (i + 1) hX rfl (by omega) (by omega) dL_law_587 ?_
  refine y_cv (t8_form l hg M1 (sX_in xs (i + 1))) mk_X8_form mi_X8_form ml_RL_76 ⟨Nat.le_of_ble_eq_true rfl, Nat.le_of_ble_eq_true rfl⟩ ⟨Nat.le_of_succ_le hcs.1, Nat.le_trans (Nat.le_add_right _ 6) hcs.2⟩ (by decide) rfl rfl rfl rfl (Nat.le_of_ble_eq_true rfl) dL_law_588 (fun r2 d2 q2 => ?_)
  obtain ⟨rfl, m1, M2⟩ := q2
  have I2 := I1.mf m1
  show yV l x g mLaw room_1 _ _ _ _ _ [_, _] _
  refine y_icmp_same 943 dL_law_591 (by decide) ?_
  exact next d2 _ _ _ _ _ _ _ (Nat.le_succ _) (Nat.le_add_right _ 6) I2 M2
theorem law_result (l : Launch) (hl0 : l.stackTraces = false) {x : zX} {g : zG} (hg : zAmOk g) {adK adV aX : Nat → Nat} (hs : zStr g adK adV) (hth : zThr g aX) {F : State → Prop} {b n i ce sl : Nat} {xs : Nat → Int32} (hX : yX x b n xs) (hn : n ≤ 3072) (hi : i + 6 ≤ n) (hcs : ce + 1 ≤ room_1.cells ∧ sl + 6 ≤ room_1.slots) {d : zD} {h : Hl} {ord : Nat → Nat} {tl : Nat} {tp : Nat → Nat} {fl : Int} (I : IC d h ord tl tp fl) (M : IM d h ord tl tp fl) (next : lwN l x g F b i ce sl) : yV l x g mLaw room_1 ce sl F 596 (lwL g b i) [] d := by
  refine y_aload_n 1 dL_law_596 rfl rfl ?_
  refine y_aloads_n 0 dL_law_597 rfl rfl ?_
  refine y_iload 4 dL_law_598 rfl ?_
  refine y_iconst dL_law_600 ?_
  refine y_iadd dL_law_601 ?_
  refine y_sld (i + 1) hX rfl (by omega) (by omega) dL_law_602 ?_
  refine y_cv (t_result l hg I (sX_in xs (i + 1))) mk_X7_result mi_X7_result ml_RL_77 ⟨Nat.le_of_ble_eq_true rfl, Nat.le_of_ble_eq_true rfl⟩ ⟨Nat.le_of_succ_le hcs.1, Nat.le_trans (Nat.le_add_right _ 6) hcs.2⟩ (by decide) rfl rfl rfl rfl (Nat.le_of_ble_eq_true rfl) dL_law_603 (fun r1 d1 q1 => ?_)
  obtain ⟨rfl, c1, I1⟩ := q1
  have M1 := M.cf c1
  show yV l x g mLaw room_1 _ _ _ _ _ [_] _
  refine y_aload_n 2 dL_law_606 rfl rfl ?_
  refine y_aloads_n 0 dL_law_607 rfl rfl ?_
  refine y_iload 4 dL_law_608 rfl ?_
  refine y_iconst dL_law_610 ?_
  refine y_iadd dL_law_611 ?_
  refine y_sld (i + 1) hX rfl (by omega) (by omega) dL_law_612 ?_
  refine y_cv (t8_result l hg M1 (sX_in xs (i + 1))) mk_X8_result mi_X8_result ml_RL_80 ⟨Nat.le_of_ble_eq_true rfl, Nat.le_of_ble_eq_true rfl⟩ ⟨Nat.le_of_succ_le hcs.1, Nat.le_trans (Nat.le_add_right _ 6) hcs.2⟩ (by decide) rfl rfl rfl rfl (Nat.le_of_ble_eq_true rfl) dL_law_613 (fun r2 d2 q2 => ?_)
  obtain ⟨rfl, m1, M2⟩ := q2
  have I2 := I1.mf m1
  show yV l x g mLaw room_1 _ _ _ _ _ [_, _] _
  refine y_icmp_same 943 dL_law_616 (by decide) ?_
  exact next d2 _ _ _ _ _ _ _ (Nat.le_succ _) (Nat.le_add_right _ 6) I2 M2
theorem law_adopted (l : Launch) (hl0 : l.stackTraces = false) {x : zX} {g : zG} (hg : zAmOk g) {adK adV aX : Nat → Nat} (hs : zStr g adK adV) (hth : zThr g aX) {F : State → Prop} {b n i ce sl : Nat} {xs : Nat → Int32} (hX : yX x b n xs) (hn : n ≤ 3072) (hi : i + 6 ≤ n) (hcs : ce + 1 ≤ room_1.cells ∧ sl + 6 ≤ room_1.slots) {d : zD} {h : Hl} {ord : Nat → Nat} {tl : Nat} {tp : Nat → Nat} {fl : Int} (I : IC d h ord tl tp fl) (M : IM d h ord tl tp fl) (next : lwN l x g F b i ce sl) : yV l x g mLaw room_1 ce sl F 621 (lwL g b i) [] d := by
  refine y_aload_n 1 dL_law_621 rfl rfl ?_
  refine y_aloads_n 0 dL_law_622 rfl rfl ?_
  refine y_iload 4 dL_law_623 rfl ?_
  refine y_iconst dL_law_625 ?_
  refine y_iadd dL_law_626 ?_
  refine y_sld (i + 1) hX rfl (by omega) (by omega) dL_law_627 ?_
  refine y_cv (t_adopted l hg I (sX_in xs (i + 1))) mk_X7_adopted mi_X7_adopted ml_RL_81 ⟨Nat.le_of_ble_eq_true rfl, Nat.le_of_ble_eq_true rfl⟩ ⟨Nat.le_of_succ_le hcs.1, Nat.le_trans (Nat.le_add_right _ 6) hcs.2⟩ (by decide) rfl rfl rfl rfl (Nat.le_of_ble_eq_true rfl) dL_law_628 (fun r1 d1 q1 => ?_)
  obtain ⟨rfl, c1, I1⟩ := q1
  have M1 := M.cf c1
  show yV l x g mLaw room_1 _ _ _ _ _ [_] _
  refine y_aload_n 2 dL_law_631 rfl rfl ?_
  refine y_aloads_n 0 dL_law_632 rfl rfl ?_
  refine y_iload 4 dL_law_633 rfl ?_
  refine y_iconst dL_law_635 ?_
  refine y_iadd dL_law_636 ?_
  refine y_sld (i + 1) hX rfl (by omega) (by omega) dL_law_637 ?_
  refine y_cv (t8_adopted l hg M1 (sX_in xs (i + 1))) mk_X8_adopted mi_X8_adopted ml_RL_84 ⟨Nat.le_of_ble_eq_true rfl, Nat.le_of_ble_eq_true rfl⟩ ⟨Nat.le_of_succ_le hcs.1, Nat.le_trans (Nat.le_add_right _ 6) hcs.2⟩ (by decide) rfl rfl rfl rfl (Nat.le_of_ble_eq_true rfl) dL_law_638 (fun r2 d2 q2 => ?_)
  obtain ⟨rfl, m1, M2⟩ := q2
  have I2 := I1.mf m1
  show yV l x g mLaw room_1 _ _ _ _ _ [_, _] _
  refine y_icmp_same 943 dL_law_641 (by decide) ?_
  exact next d2 _ _ _ _ _ _ _ (Nat.le_succ _) (Nat.le_add_right _ 6) I2 M2
theorem law_yes (l : Launch) (hl0 : l.stackTraces = false) {x : zX} {g : zG} (hg : zAmOk g) {adK adV aX : Nat → Nat} (hs : zStr g adK adV) (hth : zThr g aX) {F : State → Prop} {b n i ce sl : Nat} {xs : Nat → Int32} (hX : yX x b n xs) (hn : n ≤ 3072) (hi : i + 6 ≤ n) (hcs : ce + 1 ≤ room_1.cells ∧ sl + 6 ≤ room_1.slots) {d : zD} {h : Hl} {ord : Nat → Nat} {tl : Nat} {tp : Nat → Nat} {fl : Int} (I : IC d h ord tl tp fl) (M : IM d h ord tl tp fl) (next : lwN l x g F b i ce sl) : yV l x g mLaw room_1 ce sl F 646 (lwL g b i) [] d := by
  refine y_aload_n 1 dL_law_646 rfl rfl ?_
  refine y_aloads_n 0 dL_law_647 rfl rfl ?_
  refine y_iload 4 dL_law_648 rfl ?_
  refine y_iconst dL_law_650 ?_
  refine y_iadd dL_law_651 ?_
  refine y_sld (i + 1) hX rfl (by omega) (by omega) dL_law_652 ?_
  refine y_aloads_n 0 dL_law_653 rfl rfl ?_
  refine y_iload 4 dL_law_654 rfl ?_
  refine y_iconst dL_law_656 ?_
  refine y_iadd dL_law_657 ?_
  refine y_sld (i + 2) hX rfl (by omega) (by omega) dL_law_658 ?_
  refine y_cv (t_yes l hg I (sX_in xs (i + 1)) (sX_in xs (i + 2))) mk_X7_yes mi_X7_yes ml_RL_85 ⟨Nat.le_of_ble_eq_true rfl, Nat.le_of_ble_eq_true rfl⟩ ⟨Nat.le_of_succ_le hcs.1, Nat.le_trans (Nat.le_add_right _ 6) hcs.2⟩ (by decide) rfl rfl rfl rfl (Nat.le_of_ble_eq_true rfl) dL_law_659 (fun r1 d1 q1 => ?_)
  obtain ⟨rfl, c1, I1⟩ := q1
  have M1 := M.cf c1
  show yV l x g mLaw room_1 _ _ _ _ _ [_] _
  refine y_aload_n 2 dL_law_662 rfl rfl ?_
  refine y_aloads_n 0 dL_law_663 rfl rfl ?_
  refine y_iload 4 dL_law_664 rfl ?_
  refine y_iconst dL_law_666 ?_
  refine y_iadd dL_law_667 ?_
  refine y_sld (i + 1) hX rfl (by omega) (by omega) dL_law_668 ?_
  refine y_aloads_n 0 dL_law_669 rfl rfl ?_
  refine y_iload 4 dL_law_670 rfl ?_
  refine y_iconst dL_law_672 ?_
  refine y_iadd dL_law_673 ?_
  refine y_sld (i + 2) hX rfl (by omega) (by omega) dL_law_674 ?_
  refine y_cv (t8_yes l hg M1 (sX_in xs (i + 1)) (sX_in xs (i + 2))) mk_X8_yes mi_X8_yes ml_RL_88 ⟨Nat.le_of_ble_eq_true rfl, Nat.le_of_ble_eq_true rfl⟩ ⟨Nat.le_of_succ_le hcs.1, Nat.le_trans (Nat.le_add_right _ 6) hcs.2⟩ (by decide) rfl rfl rfl rfl (Nat.le_of_ble_eq_true rfl) dL_law_675 (fun r2 d2 q2 => ?_)
  obtain ⟨rfl, m1, M2⟩ := q2
  have I2 := I1.mf m1
  show yV l x g mLaw room_1 _ _ _ _ _ [_, _] _
  refine y_icmp_same 943 dL_law_678 (by decide) ?_
  exact next d2 _ _ _ _ _ _ _ (Nat.le_succ _) (Nat.le_add_right _ 6) I2 M2
theorem law_minutes (l : Launch) (hl0 : l.stackTraces = false) {x : zX} {g : zG} (hg : zAmOk g) {adK adV aX : Nat → Nat} (hs : zStr g adK adV) (hth : zThr g aX) {F : State → Prop} {b n i ce sl : Nat} {xs : Nat → Int32} (hX : yX x b n xs) (hn : n ≤ 3072) (hi : i + 6 ≤ n) (hcs : ce + 1 ≤ room_1.cells ∧ sl + 6 ≤ room_1.slots) {d : zD} {h : Hl} {ord : Nat → Nat} {tl : Nat} {tp : Nat → Nat} {fl : Int} (I : IC d h ord tl tp fl) (M : IM d h ord tl tp fl) (next : lwN l x g F b i ce sl) : yV l x g mLaw room_1 ce sl F 683 (lwL g b i) [] d := by
  refine y_aload_n 1 dL_law_683 rfl rfl ?_
  refine y_aloads_n 0 dL_law_684 rfl rfl ?_
  refine y_iload 4 dL_law_685 rfl ?_
  refine y_iconst dL_law_687 ?_
  refine y_iadd dL_law_688 ?_
  refine y_sld (i + 1) hX rfl (by omega) (by omega) dL_law_689 ?_
  refine y_aloads_n 0 dL_law_690 rfl rfl ?_
  refine y_iload 4 dL_law_691 rfl ?_
  refine y_iconst dL_law_693 ?_
  refine y_iadd dL_law_694 ?_
  refine y_sld (i + 2) hX rfl (by omega) (by omega) dL_law_695 ?_
  refine y_cv (t_minutes l hg I (sX_in xs (i + 1)) (sX_in xs (i + 2))) mk_X7_minutes mi_X7_minutes ml_RL_89 ⟨Nat.le_of_ble_eq_true rfl, Nat.le_of_ble_eq_true rfl⟩ ⟨Nat.le_of_succ_le hcs.1, Nat.le_trans (Nat.le_add_right _ 6) hcs.2⟩ (by decide) rfl rfl rfl rfl (Nat.le_of_ble_eq_true rfl) dL_law_696 (fun r1 d1 q1 => ?_)
  obtain ⟨rfl, c1, I1⟩ := q1
  have M1 := M.cf c1
  show yV l x g mLaw room_1 _ _ _ _ _ [_] _
  refine y_aload_n 2 dL_law_699 rfl rfl ?_
  refine y_aloads_n 0 dL_law_700 rfl rfl ?_
  refine y_iload 4 dL_law_701 rfl ?_
  refine y_iconst dL_law_703 ?_
  refine y_iadd dL_law_704 ?_
  refine y_sld (i + 1) hX rfl (by omega) (by omega) dL_law_705 ?_
  refine y_aloads_n 0 dL_law_706 rfl rfl ?_
  refine y_iload 4 dL_law_707 rfl ?_
  refine y_iconst dL_law_709 ?_
  refine y_iadd dL_law_710 ?_
  refine y_sld (i + 2) hX rfl (by omega) (by omega) dL_law_711 ?_
  refine y_cv (t8_minutes l hg M1 (sX_in xs (i + 1)) (sX_in xs (i + 2))) mk_X8_minutes mi_X8_minutes ml_RL_92 ⟨Nat.le_of_ble_eq_true rfl, Nat.le_of_ble_eq_true rfl⟩ ⟨Nat.le_of_succ_le hcs.1, Nat.le_trans (Nat.le_add_right _ 6) hcs.2⟩ (by decide) rfl rfl rfl rfl (Nat.le_of_ble_eq_true rfl) dL_law_712 (fun r2 d2 q2 => ?_)
  obtain ⟨rfl, m1, M2⟩ := q2
  have I2 := I1.mf m1
  show yV l x g mLaw room_1 _ _ _ _ _ [_, _] _
  refine y_icmp_same 943 dL_law_715 (by decide) ?_
  exact next d2 _ _ _ _ _ _ _ (Nat.le_succ _) (Nat.le_add_right _ 6) I2 M2
theorem law_without (l : Launch) (hl0 : l.stackTraces = false) {x : zX} {g : zG} (hg : zAmOk g) {adK adV aX : Nat → Nat} (hs : zStr g adK adV) (hth : zThr g aX) {F : State → Prop} {b n i ce sl : Nat} {xs : Nat → Int32} (hX : yX x b n xs) (hn : n ≤ 3072) (hi : i + 6 ≤ n) (hcs : ce + 1 ≤ room_1.cells ∧ sl + 6 ≤ room_1.slots) {d : zD} {h : Hl} {ord : Nat → Nat} {tl : Nat} {tp : Nat → Nat} {fl : Int} (I : IC d h ord tl tp fl) (M : IM d h ord tl tp fl) (next : lwN l x g F b i ce sl) : yV l x g mLaw room_1 ce sl F 720 (lwL g b i) [] d := by
  refine y_aload_n 1 dL_law_720 rfl rfl ?_
  refine y_aloads_n 0 dL_law_721 rfl rfl ?_
  refine y_iload 4 dL_law_722 rfl ?_
  refine y_iconst dL_law_724 ?_
  refine y_iadd dL_law_725 ?_
  refine y_sld (i + 1) hX rfl (by omega) (by omega) dL_law_726 ?_
  refine y_aloads_n 0 dL_law_727 rfl rfl ?_
  refine y_iload 4 dL_law_728 rfl ?_
  refine y_iconst dL_law_730 ?_
  refine y_iadd dL_law_731 ?_
  refine y_sld (i + 2) hX rfl (by omega) (by omega) dL_law_732 ?_
  refine y_cv (t_without l hg I (sX_in xs (i + 1)) (sX_in xs (i + 2))) mk_X7_without mi_X7_without ml_RL_93 ⟨Nat.le_of_ble_eq_true rfl, Nat.le_of_ble_eq_true rfl⟩ ⟨Nat.le_of_succ_le hcs.1, Nat.le_trans (Nat.le_add_right _ 6) hcs.2⟩ (by decide) rfl rfl rfl rfl (Nat.le_of_ble_eq_true rfl) dL_law_733 (fun r1 d1 q1 => ?_)
  obtain ⟨rfl, c1, I1⟩ := q1
  have M1 := M.cf c1
  show yV l x g mLaw room_1 _ _ _ _ _ [_] _
  refine y_aload_n 2 dL_law_736 rfl rfl ?_
  refine y_aloads_n 0 dL_law_737 rfl rfl ?_
  refine y_iload 4 dL_law_738 rfl ?_
  refine y_iconst dL_law_740 ?_
  refine y_iadd dL_law_741 ?_
  refine y_sld (i + 1) hX rfl (by omega) (by omega) dL_law_742 ?_
  refine y_aloads_n 0 dL_law_743 rfl rfl ?_
  refine y_iload 4 dL_law_744 rfl ?_
  refine y_iconst dL_law_746 ?_
  refine y_iadd dL_law_747 ?_
  refine y_sld (i + 2) hX rfl (by omega) (by omega) dL_law_748 ?_
  refine y_cv (t8_without l hg M1 (sX_in xs (i + 1)) (sX_in xs (i + 2))) mk_X8_without mi_X8_without ml_RL_96 ⟨Nat.le_of_ble_eq_true rfl, Nat.le_of_ble_eq_true rfl⟩ ⟨Nat.le_of_succ_le hcs.1, Nat.le_trans (Nat.le_add_right _ 6) hcs.2⟩ (by decide) rfl rfl rfl rfl (Nat.le_of_ble_eq_true rfl) dL_law_749 (fun r2 d2 q2 => ?_)
  obtain ⟨rfl, m1, M2⟩ := q2
  have I2 := I1.mf m1
  show yV l x g mLaw room_1 _ _ _ _ _ [_, _] _
  refine y_icmp_same 943 dL_law_752 (by decide) ?_
  exact next d2 _ _ _ _ _ _ _ (Nat.le_succ _) (Nat.le_add_right _ 6) I2 M2
theorem law_killers (l : Launch) (hl0 : l.stackTraces = false) {x : zX} {g : zG} (hg : zAmOk g) {adK adV aX : Nat → Nat} (hs : zStr g adK adV) (hth : zThr g aX) {F : State → Prop} {b n i ce sl : Nat} {xs : Nat → Int32} (hX : yX x b n xs) (hn : n ≤ 3072) (hi : i + 6 ≤ n) (hcs : ce + 1 ≤ room_1.cells ∧ sl + 6 ≤ room_1.slots) {d : zD} {h : Hl} {ord : Nat → Nat} {tl : Nat} {tp : Nat → Nat} {fl : Int} (I : IC d h ord tl tp fl) (M : IM d h ord tl tp fl) (next : lwN l x g F b i ce sl) : yV l x g mLaw room_1 ce sl F 757 (lwL g b i) [] d := by
  refine y_aload_n 1 dL_law_757 rfl rfl ?_
  refine y_aloads_n 0 dL_law_758 rfl rfl ?_
  refine y_iload 4 dL_law_759 rfl ?_
  refine y_iconst dL_law_761 ?_
  refine y_iadd dL_law_762 ?_
  refine y_sld (i + 1) hX rfl (by omega) (by omega) dL_law_763 ?_
  refine y_cv (t_killers l hg I (sX_in xs (i + 1))) mk_X7_killers mi_X7_killers ml_RL_97 ⟨Nat.le_of_ble_eq_true rfl, Nat.le_of_ble_eq_true rfl⟩ ⟨Nat.le_of_succ_le hcs.1, Nat.le_trans (Nat.le_add_right _ 6) hcs.2⟩ (by decide) rfl rfl rfl rfl (Nat.le_of_ble_eq_true rfl) dL_law_764 (fun r1 d1 q1 => ?_)
  obtain ⟨rfl, c1, I1⟩ := q1
  have M1 := M.cf c1
  show yV l x g mLaw room_1 _ _ _ _ _ [_] _
  refine y_aload_n 2 dL_law_767 rfl rfl ?_
  refine y_aloads_n 0 dL_law_768 rfl rfl ?_
  refine y_iload 4 dL_law_769 rfl ?_
  refine y_iconst dL_law_771 ?_
  refine y_iadd dL_law_772 ?_
  refine y_sld (i + 1) hX rfl (by omega) (by omega) dL_law_773 ?_
  refine y_cv (t8_killers l hg M1 (sX_in xs (i + 1))) mk_X8_killers mi_X8_killers ml_RL_100 ⟨Nat.le_of_ble_eq_true rfl, Nat.le_of_ble_eq_true rfl⟩ ⟨Nat.le_of_succ_le hcs.1, Nat.le_trans (Nat.le_add_right _ 6) hcs.2⟩ (by decide) rfl rfl rfl rfl (Nat.le_of_ble_eq_true rfl) dL_law_774 (fun r2 d2 q2 => ?_)
  obtain ⟨rfl, m1, M2⟩ := q2
  have I2 := I1.mf m1
  show yV l x g mLaw room_1 _ _ _ _ _ [_, _] _
  refine y_icmp_same 943 dL_law_777 (by decide) ?_
  exact next d2 _ _ _ _ _ _ _ (Nat.le_succ _) (Nat.le_add_right _ 6) I2 M2
theorem law_best (l : Launch) (hl0 : l.stackTraces = false) {x : zX} {g : zG} (hg : zAmOk g) {adK adV aX : Nat → Nat} (hs : zStr g adK adV) (hth : zThr g aX) {F : State → Prop} {b n i ce sl : Nat} {xs : Nat → Int32} (hX : yX x b n xs) (hn : n ≤ 3072) (hi : i + 6 ≤ n) (hcs : ce + 1 ≤ room_1.cells ∧ sl + 6 ≤ room_1.slots) {d : zD} {h : Hl} {ord : Nat → Nat} {tl : Nat} {tp : Nat → Nat} {fl : Int} (I : IC d h ord tl tp fl) (M : IM d h ord tl tp fl) (next : lwN l x g F b i ce sl) : yV l x g mLaw room_1 ce sl F 782 (lwL g b i) [] d := by
  refine y_aload_n 1 dL_law_782 rfl rfl ?_
  refine y_aloads_n 0 dL_law_783 rfl rfl ?_
  refine y_iload 4 dL_law_784 rfl ?_
  refine y_iconst dL_law_786 ?_
  refine y_iadd dL_law_787 ?_
  refine y_sld (i + 1) hX rfl (by omega) (by omega) dL_law_788 ?_
  refine y_aloads_n 0 dL_law_789 rfl rfl ?_
  refine y_iload 4 dL_law_790 rfl ?_
  refine y_iconst dL_law_792 ?_
  refine y_iadd dL_law_793 ?_
  refine y_sld (i + 2) hX rfl (by omega) (by omega) dL_law_794 ?_
  refine y_aloads_n 0 dL_law_795 rfl rfl ?_
  refine y_iload 4 dL_law_796 rfl ?_
  refine y_iconst dL_law_798 ?_
  refine y_iadd dL_law_799 ?_
  refine y_sld (i + 3) hX rfl (by omega) (by omega) dL_law_800 ?_
  refine y_cv (t_best l hg I (sX_in xs (i + 1)) (sX_in xs (i + 2)) (sX_in xs (i + 3))) mk_X7_best mi_X7_best ml_RL_101 ⟨Nat.le_of_ble_eq_true rfl, Nat.le_of_ble_eq_true rfl⟩ ⟨Nat.le_of_succ_le hcs.1, Nat.le_trans (Nat.le_add_right _ 6) hcs.2⟩ (by decide) rfl rfl rfl rfl (Nat.le_of_ble_eq_true rfl) dL_law_801 (fun r1 d1 q1 => ?_)
  obtain ⟨rfl, c1, I1⟩ := q1
  have M1 := M.cf c1
  show yV l x g mLaw room_1 _ _ _ _ _ [_] _
  refine y_aload_n 2 dL_law_804 rfl rfl ?_
  refine y_aloads_n 0 dL_law_805 rfl rfl ?_
  refine y_iload 4 dL_law_806 rfl ?_
  refine y_iconst dL_law_808 ?_
  refine y_iadd dL_law_809 ?_
  refine y_sld (i + 1) hX rfl (by omega) (by omega) dL_law_810 ?_
  refine y_aloads_n 0 dL_law_811 rfl rfl ?_
  refine y_iload 4 dL_law_812 rfl ?_
  refine y_iconst dL_law_814 ?_
  refine y_iadd dL_law_815 ?_
  refine y_sld (i + 2) hX rfl (by omega) (by omega) dL_law_816 ?_
  refine y_aloads_n 0 dL_law_817 rfl rfl ?_
  refine y_iload 4 dL_law_818 rfl ?_
  refine y_iconst dL_law_820 ?_
  refine y_iadd dL_law_821 ?_
  refine y_sld (i + 3) hX rfl (by omega) (by omega) dL_law_822 ?_
  refine y_cv (t8_best l hg M1 (sX_in xs (i + 1)) (sX_in xs (i + 2)) (sX_in xs (i + 3))) mk_X8_best mi_X8_best ml_RL_105 ⟨Nat.le_of_ble_eq_true rfl, Nat.le_of_ble_eq_true rfl⟩ ⟨Nat.le_of_succ_le hcs.1, Nat.le_trans (Nat.le_add_right _ 6) hcs.2⟩ (by decide) rfl rfl rfl rfl (Nat.le_of_ble_eq_true rfl) dL_law_823 (fun r2 d2 q2 => ?_)
  obtain ⟨rfl, m1, M2⟩ := q2
  have I2 := I1.mf m1
  show yV l x g mLaw room_1 _ _ _ _ _ [_, _] _
  refine y_icmp_same 943 dL_law_826 (by decide) ?_
  exact next d2 _ _ _ _ _ _ _ (Nat.le_succ _) (Nat.le_add_right _ 6) I2 M2
theorem law_prefers (l : Launch) (hl0 : l.stackTraces = false) {x : zX} {g : zG} (hg : zAmOk g) {adK adV aX : Nat → Nat} (hs : zStr g adK adV) (hth : zThr g aX) {F : State → Prop} {b n i ce sl : Nat} {xs : Nat → Int32} (hX : yX x b n xs) (hn : n ≤ 3072) (hi : i + 6 ≤ n) (hcs : ce + 1 ≤ room_1.cells ∧ sl + 6 ≤ room_1.slots) {d : zD} {h : Hl} {ord : Nat → Nat} {tl : Nat} {tp : Nat → Nat} {fl : Int} (I : IC d h ord tl tp fl) (M : IM d h ord tl tp fl) (next : lwN l x g F b i ce sl) : yV l x g mLaw room_1 ce sl F 831 (lwL g b i) [] d := by
  refine y_aload_n 1 dL_law_831 rfl rfl ?_
  refine y_aloads_n 0 dL_law_832 rfl rfl ?_
  refine y_iload 4 dL_law_833 rfl ?_
  refine y_iconst dL_law_835 ?_
  refine y_iadd dL_law_836 ?_
  refine y_sld (i + 1) hX rfl (by omega) (by omega) dL_law_837 ?_
  refine y_aloads_n 0 dL_law_838 rfl rfl ?_
  refine y_iload 4 dL_law_839 rfl ?_
  refine y_iconst dL_law_841 ?_
  refine y_iadd dL_law_842 ?_
  refine y_sld (i + 2) hX rfl (by omega) (by omega) dL_law_843 ?_
  refine y_cv (t_prefers l hg I (sX_in xs (i + 1)) (sX_in xs (i + 2))) mk_X7_prefers mi_X7_prefers ml_RL_106 ⟨Nat.le_of_ble_eq_true rfl, Nat.le_of_ble_eq_true rfl⟩ ⟨Nat.le_of_succ_le hcs.1, Nat.le_trans (Nat.le_add_right _ 6) hcs.2⟩ (by decide) rfl rfl rfl rfl (Nat.le_of_ble_eq_true rfl) dL_law_844 (fun r1 d1 q1 => ?_)
  obtain ⟨rfl, c1, I1⟩ := q1
  have M1 := M.cf c1
  show yV l x g mLaw room_1 _ _ _ _ _ [_] _
  refine y_aload_n 2 dL_law_847 rfl rfl ?_
  refine y_aloads_n 0 dL_law_848 rfl rfl ?_
  refine y_iload 4 dL_law_849 rfl ?_
  refine y_iconst dL_law_851 ?_
  refine y_iadd dL_law_852 ?_
  refine y_sld (i + 1) hX rfl (by omega) (by omega) dL_law_853 ?_
  refine y_aloads_n 0 dL_law_854 rfl rfl ?_
  refine y_iload 4 dL_law_855 rfl ?_
  refine y_iconst dL_law_857 ?_
  refine y_iadd dL_law_858 ?_
  refine y_sld (i + 2) hX rfl (by omega) (by omega) dL_law_859 ?_
  refine y_cv (t8_prefers l hg M1 (sX_in xs (i + 1)) (sX_in xs (i + 2))) mk_X8_prefers mi_X8_prefers ml_RL_109 ⟨Nat.le_of_ble_eq_true rfl, Nat.le_of_ble_eq_true rfl⟩ ⟨Nat.le_of_succ_le hcs.1, Nat.le_trans (Nat.le_add_right _ 6) hcs.2⟩ (by decide) rfl rfl rfl rfl (Nat.le_of_ble_eq_true rfl) dL_law_860 (fun r2 d2 q2 => ?_)
  obtain ⟨rfl, m1, M2⟩ := q2
  have I2 := I1.mf m1
  show yV l x g mLaw room_1 _ _ _ _ _ [_, _] _
  refine y_icmp_same 943 dL_law_863 (by decide) ?_
  exact next d2 _ _ _ _ _ _ _ (Nat.le_succ _) (Nat.le_add_right _ 6) I2 M2
theorem law_open (l : Launch) (hl0 : l.stackTraces = false) {x : zX} {g : zG} (hg : zAmOk g) {adK adV aX : Nat → Nat} (hs : zStr g adK adV) (hth : zThr g aX) {F : State → Prop} {b n i ce sl : Nat} {xs : Nat → Int32} (hX : yX x b n xs) (hn : n ≤ 3072) (hi : i + 6 ≤ n) (hcs : ce + 1 ≤ room_1.cells ∧ sl + 6 ≤ room_1.slots) {d : zD} {h : Hl} {ord : Nat → Nat} {tl : Nat} {tp : Nat → Nat} {fl : Int} (I : IC d h ord tl tp fl) (M : IM d h ord tl tp fl) (next : lwN l x g F b i ce sl) : yV l x g mLaw room_1 ce sl F 868 (lwL g b i) [] d := by
  refine y_aload_n 1 dL_law_868 rfl rfl ?_
  refine y_aloads_n 0 dL_law_869 rfl rfl ?_
  refine y_iload 4 dL_law_870 rfl ?_
  refine y_iconst dL_law_872 ?_
  refine y_iadd dL_law_873 ?_
  refine y_sld (i + 1) hX rfl (by omega) (by omega) dL_law_874 ?_
  refine y_cv (t_open l hg I (sX_in xs (i + 1))) mk_X7_open mi_X7_open ml_RL_110 ⟨Nat.le_of_ble_eq_true rfl, Nat.le_of_ble_eq_true rfl⟩ ⟨Nat.le_of_succ_le hcs.1, Nat.le_trans (Nat.le_add_right _ 6) hcs.2⟩ (by decide) rfl rfl rfl rfl (Nat.le_of_ble_eq_true rfl) dL_law_875 (fun r1 d1 q1 => ?_)
  obtain ⟨rfl, c1, I1⟩ := q1
  have M1 := M.cf c1
  show yV l x g mLaw room_1 _ _ _ _ _ [_] _
  refine y_aload_n 2 dL_law_878 rfl rfl ?_
  refine y_aloads_n 0 dL_law_879 rfl rfl ?_
  refine y_iload 4 dL_law_880 rfl ?_
  refine y_iconst dL_law_882 ?_
  refine y_iadd dL_law_883 ?_
  refine y_sld (i + 1) hX rfl (by omega) (by omega) dL_law_884 ?_
  refine y_cv (t8_open l hg M1 (sX_in xs (i + 1))) mk_X8_open mi_X8_open ml_RL_113 ⟨Nat.le_of_ble_eq_true rfl, Nat.le_of_ble_eq_true rfl⟩ ⟨Nat.le_of_succ_le hcs.1, Nat.le_trans (Nat.le_add_right _ 6) hcs.2⟩ (by decide) rfl rfl rfl rfl (Nat.le_of_ble_eq_true rfl) dL_law_885 (fun r2 d2 q2 => ?_)
  obtain ⟨rfl, m1, M2⟩ := q2
  have I2 := I1.mf m1
  show yV l x g mLaw room_1 _ _ _ _ _ [_, _] _
  refine y_icmp_same 943 dL_law_888 (by decide) ?_
  exact next d2 _ _ _ _ _ _ _ (Nat.le_succ _) (Nat.le_add_right _ 6) I2 M2
theorem law_winner (l : Launch) (hl0 : l.stackTraces = false) {x : zX} {g : zG} (hg : zAmOk g) {adK adV aX : Nat → Nat} (hs : zStr g adK adV) (hth : zThr g aX) {F : State → Prop} {b n i ce sl : Nat} {xs : Nat → Int32} (hX : yX x b n xs) (hn : n ≤ 3072) (hi : i + 6 ≤ n) (hcs : ce + 1 ≤ room_1.cells ∧ sl + 6 ≤ room_1.slots) {d : zD} {h : Hl} {ord : Nat → Nat} {tl : Nat} {tp : Nat → Nat} {fl : Int} (I : IC d h ord tl tp fl) (M : IM d h ord tl tp fl) (next : lwN l x g F b i ce sl) : yV l x g mLaw room_1 ce sl F 893 (lwL g b i) [] d := by
  refine y_aload_n 1 dL_law_893 rfl rfl ?_
  refine y_cv (t_winner l hg I ) mk_X7_winner mi_X7_winner ml_RL_114 ⟨Nat.le_of_ble_eq_true rfl, Nat.le_of_ble_eq_true rfl⟩ ⟨Nat.le_of_succ_le hcs.1, Nat.le_trans (Nat.le_add_right _ 6) hcs.2⟩ (by decide) rfl rfl rfl rfl (Nat.le_of_ble_eq_true rfl) dL_law_894 (fun r1 d1 q1 => ?_)
  obtain ⟨rfl, c1, I1⟩ := q1
  have M1 := M.cf c1
  show yV l x g mLaw room_1 _ _ _ _ _ [_] _
  refine y_aload_n 2 dL_law_897 rfl rfl ?_
  refine y_cv (t8_winner l hg M1 ) mk_X8_winner mi_X8_winner ml_RL_117 ⟨Nat.le_of_ble_eq_true rfl, Nat.le_of_ble_eq_true rfl⟩ ⟨Nat.le_of_succ_le hcs.1, Nat.le_trans (Nat.le_add_right _ 6) hcs.2⟩ (by decide) rfl rfl rfl rfl (Nat.le_of_ble_eq_true rfl) dL_law_898 (fun r2 d2 q2 => ?_)
  obtain ⟨rfl, m1, M2⟩ := q2
  have I2 := I1.mf m1
  show yV l x g mLaw room_1 _ _ _ _ _ [_, _] _
  refine y_icmp_same 943 dL_law_901 (by decide) ?_
  exact next d2 _ _ _ _ _ _ _ (Nat.le_succ _) (Nat.le_add_right _ 6) I2 M2
theorem law_standing (l : Launch) (hl0 : l.stackTraces = false) {x : zX} {g : zG} (hg : zAmOk g) {adK adV aX : Nat → Nat} (hs : zStr g adK adV) (hth : zThr g aX) {F : State → Prop} {b n i ce sl : Nat} {xs : Nat → Int32} (hX : yX x b n xs) (hn : n ≤ 3072) (hi : i + 6 ≤ n) (hcs : ce + 1 ≤ room_1.cells ∧ sl + 6 ≤ room_1.slots) {d : zD} {h : Hl} {ord : Nat → Nat} {tl : Nat} {tp : Nat → Nat} {fl : Int} (I : IC d h ord tl tp fl) (M : IM d h ord tl tp fl) (next : lwN l x g F b i ce sl) : yV l x g mLaw room_1 ce sl F 906 (lwL g b i) [] d := by
  refine y_aload_n 1 dL_law_906 rfl rfl ?_
  refine y_aloads_n 0 dL_law_907 rfl rfl ?_
  refine y_iload 4 dL_law_908 rfl ?_
  refine y_iconst dL_law_910 ?_
  refine y_iadd dL_law_911 ?_
  refine y_sld (i + 1) hX rfl (by omega) (by omega) dL_law_912 ?_
  refine y_aloads_n 0 dL_law_913 rfl rfl ?_
  refine y_iload 4 dL_law_914 rfl ?_
  refine y_iconst dL_law_916 ?_
  refine y_iadd dL_law_917 ?_
  refine y_sld (i + 2) hX rfl (by omega) (by omega) dL_law_918 ?_
  refine y_cv (t_standing l hg I (sX_in xs (i + 1)) (sX_in xs (i + 2))) mk_X7_standing mi_X7_standing ml_RL_118 ⟨Nat.le_of_ble_eq_true rfl, Nat.le_of_ble_eq_true rfl⟩ ⟨Nat.le_of_succ_le hcs.1, Nat.le_trans (Nat.le_add_right _ 6) hcs.2⟩ (by decide) rfl rfl rfl rfl (Nat.le_of_ble_eq_true rfl) dL_law_919 (fun r1 d1 q1 => ?_)
  obtain ⟨rfl, c1, I1⟩ := q1
  have M1 := M.cf c1
  show yV l x g mLaw room_1 _ _ _ _ _ [_] _
  refine y_aload_n 2 dL_law_922 rfl rfl ?_
  refine y_aloads_n 0 dL_law_923 rfl rfl ?_
  refine y_iload 4 dL_law_924 rfl ?_
  refine y_iconst dL_law_926 ?_
  refine y_iadd dL_law_927 ?_
  refine y_sld (i + 1) hX rfl (by omega) (by omega) dL_law_928 ?_
  refine y_aloads_n 0 dL_law_929 rfl rfl ?_
  refine y_iload 4 dL_law_930 rfl ?_
  refine y_iconst dL_law_932 ?_
  refine y_iadd dL_law_933 ?_
  refine y_sld (i + 2) hX rfl (by omega) (by omega) dL_law_934 ?_
  refine y_cv (t8_standing l hg M1 (sX_in xs (i + 1)) (sX_in xs (i + 2))) mk_X8_standing mi_X8_standing ml_RL_121 ⟨Nat.le_of_ble_eq_true rfl, Nat.le_of_ble_eq_true rfl⟩ ⟨Nat.le_of_succ_le hcs.1, Nat.le_trans (Nat.le_add_right _ 6) hcs.2⟩ (by decide) rfl rfl rfl rfl (Nat.le_of_ble_eq_true rfl) dL_law_935 (fun r2 d2 q2 => ?_)
  obtain ⟨rfl, m1, M2⟩ := q2
  have I2 := I1.mf m1
  show yV l x g mLaw room_1 _ _ _ _ _ [_, _] _
  refine y_icmp_same 943 dL_law_938 (by decide) ?_
  exact next d2 _ _ _ _ _ _ _ (Nat.le_succ _) (Nat.le_add_right _ 6) I2 M2
theorem law_step (l : Launch) (hl0 : l.stackTraces = false) {x : zX} {g : zG} (hg : zAmOk g) {adK adV aX : Nat → Nat} (hs : zStr g adK adV) (hth : zThr g aX) {F : State → Prop} {b n i ce sl : Nat} {xs : Nat → Int32} (hX : yX x b n xs) (hn : n ≤ 3072) (hi : i + 6 ≤ n) (hcs : ce + 1 ≤ room_1.cells ∧ sl + 6 ≤ room_1.slots) {d : zD} {h : Hl} {ord : Nat → Nat} {tl : Nat} {tp : Nat → Nat} {fl : Int} (I : IC d h ord tl tp fl) (M : IM d h ord tl tp fl) (next : lwN l x g F b i ce sl) : yV l x g mLaw room_1 ce sl F 33 (lwL g b i) [] d := by
  refine y_aloads_n 0 dL_law_33 rfl rfl ?_
  refine y_iload 4 dL_law_34 rfl ?_
  refine y_sld i hX rfl (by omega) (by omega) dL_law_36 ?_
  refine y_bipush dL_law_37 (by decide) ?_
  refine y_iand _ (and31 (sX xs i)) dL_law_39 ?_
  have hv : (sX xs i % 4294967296).toNat % 32 < 32 := Nat.mod_lt _ (by decide)
  generalize (sX xs i % 4294967296).toNat % 32 = v at hv ⊢
  by_cases h21 : v ≤ 21
  · rcases (show v = 0 ∨ v = 1 ∨ v = 2 ∨ v = 3 ∨ v = 4 ∨ v = 5 ∨ v = 6 ∨ v = 7 ∨ v = 8 ∨ v = 9 ∨ v = 10 ∨ v = 11 ∨ v = 12 ∨ v = 13 ∨ v = 14 ∨ v = 15 ∨ v = 16 ∨ v = 17 ∨ v = 18 ∨ v = 19 ∨ v = 20 ∨ v = 21 by omega) with rfl | rfl | rfl | rfl | rfl | rfl | rfl | rfl | rfl | rfl | rfl | rfl | rfl | rfl | rfl | rfl | rfl | rfl | rfl | rfl | rfl | rfl
    · exact y_tabIn 144 0 rfl (by decide) (by decide) (by decide) rfl (by decide) dL_law_40 (law_feed l hl0 hg hs hth hX hn hi hcs I M next)
    · exact y_tabIn 217 1 rfl (by decide) (by decide) (by decide) rfl (by decide) dL_law_40 (law_end l hl0 hg hs hth hX hn hi hcs I M next)
    · exact y_tabIn 242 2 rfl (by decide) (by decide) (by decide) rfl (by decide) dL_law_40 (law_tell l hl0 hg hs hth hX hn hi hcs I M next)
    · exact y_tabIn 255 3 rfl (by decide) (by decide) (by decide) rfl (by decide) dL_law_40 (law_fault l hl0 hg hs hth hX hn hi hcs I M next)
    · exact y_tabIn 268 4 rfl (by decide) (by decide) (by decide) rfl (by decide) dL_law_40 (law_weigh l hl0 hg hs hth hX hn hi hcs I M next)
    · exact y_tabIn 317 5 rfl (by decide) (by decide) (by decide) rfl (by decide) dL_law_40 (law_order l hl0 hg hs hth hX hn hi hcs I M next)
    · exact y_tabIn 342 6 rfl (by decide) (by decide) (by decide) rfl (by decide) dL_law_40 (law_count l hl0 hg hs hth hX hn hi hcs I M next)
    · exact y_tabIn 367 7 rfl (by decide) (by decide) (by decide) rfl (by decide) dL_law_40 (law_motion l hl0 hg hs hth hX hn hi hcs I M next)
    · exact y_tabIn 435 8 rfl (by decide) (by decide) (by decide) rfl (by decide) dL_law_40 (law_weight l hl0 hg hs hth hX hn hi hcs I M next)
    · exact y_tabIn 503 9 rfl (by decide) (by decide) (by decide) rfl (by decide) dL_law_40 (law_likes l hl0 hg hs hth hX hn hi hcs I M next)
    · exact y_tabIn 571 10 rfl (by decide) (by decide) (by decide) rfl (by decide) dL_law_40 (law_form l hl0 hg hs hth hX hn hi hcs I M next)
    · exact y_tabIn 596 11 rfl (by decide) (by decide) (by decide) rfl (by decide) dL_law_40 (law_result l hl0 hg hs hth hX hn hi hcs I M next)
    · exact y_tabIn 621 12 rfl (by decide) (by decide) (by decide) rfl (by decide) dL_law_40 (law_adopted l hl0 hg hs hth hX hn hi hcs I M next)
    · exact y_tabIn 646 13 rfl (by decide) (by decide) (by decide) rfl (by decide) dL_law_40 (law_yes l hl0 hg hs hth hX hn hi hcs I M next)
    · exact y_tabIn 683 14 rfl (by decide) (by decide) (by decide) rfl (by decide) dL_law_40 (law_minutes l hl0 hg hs hth hX hn hi hcs I M next)
    · exact y_tabIn 720 15 rfl (by decide) (by decide) (by decide) rfl (by decide) dL_law_40 (law_without l hl0 hg hs hth hX hn hi hcs I M next)
    · exact y_tabIn 757 16 rfl (by decide) (by decide) (by decide) rfl (by decide) dL_law_40 (law_killers l hl0 hg hs hth hX hn hi hcs I M next)
    · exact y_tabIn 782 17 rfl (by decide) (by decide) (by decide) rfl (by decide) dL_law_40 (law_best l hl0 hg hs hth hX hn hi hcs I M next)
    · exact y_tabIn 831 18 rfl (by decide) (by decide) (by decide) rfl (by decide) dL_law_40 (law_prefers l hl0 hg hs hth hX hn hi hcs I M next)
    · exact y_tabIn 868 19 rfl (by decide) (by decide) (by decide) rfl (by decide) dL_law_40 (law_open l hl0 hg hs hth hX hn hi hcs I M next)
    · exact y_tabIn 893 20 rfl (by decide) (by decide) (by decide) rfl (by decide) dL_law_40 (law_winner l hl0 hg hs hth hX hn hi hcs I M next)
    · exact y_tabIn 906 21 rfl (by decide) (by decide) (by decide) rfl (by decide) dL_law_40 (law_standing l hl0 hg hs hth hX hn hi hcs I M next)
  · exact y_tabOut 943 (by omega) (by omega) (by decide) dL_law_40 (next d _ _ _ _ _ _ _ (Nat.le_succ _) (Nat.le_add_right _ 6) I M)
theorem law_loop (l : Launch) (hl0 : l.stackTraces = false) {x : zX} {g : zG} (hg : zAmOk g) {adK adV aX : Nat → Nat} (hs : zStr g adK adV) (hth : zThr g aX) {F : State → Prop} {b n : Nat} {xs : Nat → Int32} (hX : yX x b n xs) (hn : n ≤ 3072) (fin : ∀ (d : zD) (i ce sl : Nat), ce ≤ 601024 → sl ≤ 7293034 → yV l x g mLaw room_1 ce sl F 949 (lwL g b i) [] d) : ∀ (r i : Nat) (d : zD) (h : Hl) (ord : Nat → Nat) (tl : Nat) (tp : Nat → Nat) (fl : Int), IC d h ord tl tp fl → IM d h ord tl tp fl → i ≤ n + 6 → n + 6 - i < r → yV l x g mLaw room_1 (1000 + i) (100000 + i) F 23 (lwL g b i) [] d := by
  intro r
  induction r with
  | zero => intro i d h ord tl tp fl I M hi hr; omega
  | succ r ih =>
    intro i d h ord tl tp fl I M hi hr
    refine y_iload 4 dL_law_23 rfl ?_
    refine y_aloads_n 0 dL_law_25 rfl rfl ?_
    refine y_slen hX dL_law_26 ?_
    refine y_bipush dL_law_27 (by decide) ?_
    refine y_isub dL_law_29 ?_
    refine y_icmp_gt 949 (by omega) (by omega) dL_law_30 (by decide) (fun hc => ?_) (fun hc => ?_)
    · exact fin d i _ _ (by omega) (by omega)
    · refine law_step l hl0 hg hs hth hX hn (by omega) ⟨show 1000 + i + 1 ≤ 601024 by omega, show 100000 + i + 6 ≤ 7293034 by omega⟩ I M (fun d' h' ord' tl' tp' fl' ce' sl' h1 h2 I' M' => ?_)
      refine y_iinc 4 (L' := lwL g b (i + 6)) dL_law_943 (by decide) rfl rfl rfl ?_
      refine y_goto 23 dL_law_946 (by decide) ?_
      exact y_widen (by omega) (by omega) (ih (i + 6) d' h' ord' tl' tp' fl' I' M' (by omega) (by omega))
