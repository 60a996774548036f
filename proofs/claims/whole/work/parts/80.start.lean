/-! what the start gives: String constants, statics, links; the making of all cells -/
def sTm (i : Nat) : Term := .string "AmendmentTree$Reader" (sIdx.getD i 0)
def xTm (i : Nat) : Term := .string RX7 (xIdx.getD i 0)
abbrev FLc : List Cond := flatC (Jvm.Cond.and given_1 narrow_1)
theorem fc_ex : ∀ i, i < 6 → Cond.exactly (sTm i) "java/lang/String" ∈ FLc := by decide +kernel
theorem fc_co : ∀ i, i < 6 → Cond.eq (.field (sTm i) "java/lang/String" "coder" "B") (.int 0) ∈ FLc := by decide +kernel
theorem fc_ar : ∀ i, i < 6 → Cond.arrayOf (.field (sTm i) "java/lang/String" "value" "[B") .byte ∈ FLc := by decide +kernel
theorem fc_le : ∀ i, i < 6 → Cond.eq (.length (.field (sTm i) "java/lang/String" "value" "[B")) (.int (Int32.ofNat (sLen.getD i 0))) ∈ FLc := by decide +kernel
theorem fc_el : ∀ i, i < 6 → ∀ j, j < sLen.getD i 0 → Cond.eq (.elem (.field (sTm i) "java/lang/String" "value" "[B") (.int (Int32.ofNat j))) (.int ((sByt.getD i []).getD j 0)) ∈ FLc := by decide +kernel
theorem fc_ne : ∀ i, i < 6 → ∀ j, j < 6 → i ≠ j → Cond.not (Cond.eq (sTm i) (sTm j)) ∈ FLc ∨ Cond.not (Cond.eq (sTm j) (sTm i)) ∈ FLc := by decide +kernel
theorem fc_xe : ∀ i, i < 4 → Cond.exactly (xTm i) "java/lang/String" ∈ FLc := by decide +kernel
theorem fc_cs : Cond.eq (.static "java/lang/String" "COMPACT_STRINGS" "Z") (.int 1) ∈ FLc := by decide +kernel
theorem fc_pf : Cond.isRef (.static "jdk/internal/util/Preconditions" "SIOOBE_FORMATTER" "Ljava/util/function/BiFunction;") ∈ FLc := by decide +kernel
theorem fc_us : Cond.isRef (.static Bundle.tN "UNASSIGNED_STACK" Bundle.steD) ∈ FLc := by decide +kernel
theorem fc_ss : Cond.isRef (.static Bundle.tN "SUPPRESSED_SENTINEL" Bundle.listD) ∈ FLc := by decide +kernel
theorem sr_in : ∀ i, i < 6 → Cond.stringRef "AmendmentTree$Reader" (sIdx.getD i 0) (sTxt.getD i "") ∈ lw_tbl := by decide +kernel
theorem xr_in : ∀ i, i < 4 → Cond.stringRef RX7 (xIdx.getD i 0) (xTxt.getD i "") ∈ lw_tbl := by decide +kernel
theorem ls_cs : Cond.laysStatic "java/lang/String" "COMPACT_STRINGS" "Z" ∈ lw_tbl := List.mem_of_getElem? (i := 580) (by decide +kernel)
theorem ls_pf : Cond.laysStatic "jdk/internal/util/Preconditions" "SIOOBE_FORMATTER" "Ljava/util/function/BiFunction;" ∈ lw_tbl := List.mem_of_getElem? (i := 596) (by decide +kernel)
theorem ls_us : Cond.laysStatic Bundle.tN "UNASSIGNED_STACK" Bundle.steD ∈ lw_tbl := List.mem_of_getElem? (i := 980) (by decide +kernel)
theorem ls_ss : Cond.laysStatic Bundle.tN "SUPPRESSED_SENTINEL" Bundle.listD ∈ lw_tbl := List.mem_of_getElem? (i := 982) (by decide +kernel)
theorem in_st : Cond.initialized "java/lang/String" ∈ lw_tbl := List.mem_of_getElem? (i := 143) (by decide +kernel)
theorem in_pf : Cond.initialized "jdk/internal/util/Preconditions" ∈ lw_tbl := List.mem_of_getElem? (i := 145) (by decide +kernel)
theorem in_th : Cond.initialized Bundle.tN ∈ lw_tbl := List.mem_of_getElem? (i := 148) (by decide +kernel)
def amb (adK adV aX : Nat → Nat) : zAm := fun A U H =>
  (vk_S 6 sLen sByt adK adV A U H ∧ va_Z "java/lang/String" "COMPACT_STRINGS" "Z" (.int 1) A U H ∧ va_Zq "jdk/internal/util/Preconditions" "SIOOBE_FORMATTER" "Ljava/util/function/BiFunction;" A U H ∧ ∀ i, i < 6 → vk_R "AmendmentTree$Reader" (sIdx.getD i 0) (sTxt.getD i "") (adK i) U) ∧
  ((∀ w ∈ nBX, va_Nw w U) ∧ vx_Zq Bundle.tN "UNASSIGNED_STACK" Bundle.steD A U H ∧ vx_Zq Bundle.tN "SUPPRESSED_SENTINEL" Bundle.listD A U H ∧ ∀ i, i < 4 → vk_R RX7 (xIdx.getD i 0) (xTxt.getD i "") (aX i) U) ∧ ∀ w ∈ zNW, va_Nw w U
theorem cd_warm {w : Cond} {s U : State} (hW : s.WarmedH U.vm) (hc : zCD w = true) (h : va_Nw w s) : va_Nw w U := by
  cases w <;> first | exact va_Nw.warmC hW h | exact va_Nw.warmD hW h | cases hc
theorem nw_warm {w : Cond} {s U : State} (hW : s.WarmedH U.vm) (hc : zNest w = true) (h : va_Nw w s) : va_Nw w U := by
  cases w <;> first | exact va_Nw.warmF hW h | exact va_Nw.warmM hW h | cases hc
theorem nest_on {w : Cond} (h : zNest w = true) : w.onTables = true := by
  cases w <;> first | rfl | cases h
theorem amb_ok (dC : Nat → ClassId) (dI : Nat → Nat → Nat) (ad : Nat → Nat) (ar : Nat → ClassId) (adK adV aX : Nat → Nat) : zAmOk (dC, dI, ad, ar, amb adK adV aX) := by
  refine ⟨fun A s U H hW h => ?_, fun A s U H hv h => ?_, fun A s H H1 hq h => ?_, fun A B s H hAB h => ?_, fun A s H h w hw => h.2.2 w hw⟩
  · exact ⟨⟨h.1.1.moved hW.alike, va_Z.moved hW.alike h.1.2.1, va_Zq.moved hW.alike h.1.2.2.1, fun i hi => vk_R.warm hW (h.1.2.2.2 i hi)⟩, ⟨fun w hw => cd_warm hW (nBX_cd w hw) (h.2.1.1 w hw), vx_Zq.moved hW.alike h.2.1.2.1, vx_Zq.moved hW.alike h.2.1.2.2.1, fun i hi => vk_R.warm hW (h.2.1.2.2.2 i hi)⟩, fun w hw => nw_warm hW (List.mem_filter.mp hw).2 (h.2.2 w hw)⟩
  · have al : s.vm.Alike U.vm := by rw [hv]; exact Vm.Alike.refl _
    exact ⟨⟨h.1.1.moved al, va_Z.moved al h.1.2.1, va_Zq.moved al h.1.2.2.1, fun i hi => vk_R.same hv.symm (h.1.2.2.2 i hi)⟩, ⟨fun w hw => va_Nw.same (zCD_on (nBX_cd w hw)) hv (h.2.1.1 w hw), vx_Zq.moved al h.2.1.2.1, vx_Zq.moved al h.2.1.2.2.1, fun i hi => vk_R.same hv.symm (h.2.1.2.2.2 i hi)⟩, fun w hw => va_Nw.same (nest_on (List.mem_filter.mp hw).2) hv (h.2.2 w hw)⟩
  · exact ⟨⟨h.1.1.kept hq, h.1.2.1.kept hq, h.1.2.2.1.kept hq, h.1.2.2.2⟩, ⟨h.2.1.1, h.2.1.2.1.kept hq, h.2.1.2.2.1.kept hq, h.2.1.2.2.2⟩, h.2.2⟩
  · exact ⟨⟨h.1.1.narrow hAB, h.1.2.1.narrow hAB, h.1.2.2.1.narrow hAB, h.1.2.2.2⟩, ⟨h.2.1.1, h.2.1.2.1.narrow hAB, h.2.1.2.2.1.narrow hAB, h.2.1.2.2.2⟩, h.2.2⟩
theorem c_istore {l : Launch} {x : zX} {g : zG} {M : zM} {R : Room} {ce sl : Nat} {F : State → Prop} {pc : Nat} {L : List (Nat × Value)} {st : List Value} {ws : va_W} {i : Nat} {a : Int} {L' : List (Nat × Value)} (hd : decode M.2.2.1 pc = .ok (.istore i, 2)) (hn : i < M.2.2.2.1) (hu : zup L = true) (hL : zset L i (zi a) = L') (k : cV l x g M R ce sl F (pc + 2) L' st ws) : cV l x g M R ce sl F pc L (zi a :: st) ws := by
  obtain ⟨p, e, s, m, args, below, meth, c, A⟩ := x
  intro ok H locs ls hP hD hS hl
  subst hL
  exact lv_istore ok.1 ok.2.1 hd hl hn rfl (fun ls' hl' => k ok H locs ls' hP hD hS (zset_has hu hl'))
theorem cV_yV {l : Launch} {x : zX} {g : zG} {M : zM} {R : Room} {ce sl : Nat} {F : State → Prop} {pc : Nat} {L : List (Nat × Value)} {st : List Value} {ws : va_W} {ad : Nat → Nat} {d : zD} (h : ws = zw (gA g ad) d) (k : yV l x (gA g ad) M R ce sl F pc L st d) : cV l x g M R ce sl F pc L st ws := by
  subst h
  obtain ⟨p, e, s, m, args, below, meth, c, A⟩ := x
  intro ok H locs ls hP hD hS hl
  exact k ok H locs ls hP hD hS hl
/-! the cells of the class, of the reference and of the law side by side are the whole world -/
def rfOk (lo hi p : Nat) : Bool := match zsh p with
  | .inl o => o.2.all (fun f => match f with | some q => decide (lo ≤ q ∧ q < hi) | none => true)
  | .inr _ => true
theorem rf_lo : ∀ p, p < 37 → rfOk 0 37 p = true := by decide +kernel
theorem rf_hi : ∀ p, p < 66 → 37 ≤ p → rfOk 37 66 p = true := by decide +kernel
theorem zfv_ag (g : zG) {ad ad2 : Nat → Nat} (r : Nat → Int) : ∀ (fs : List (Option Nat)) (k : Nat), (∀ q, some q ∈ fs → ad q = ad2 q) → zfv (gA g ad) r k fs = zfv (gA g ad2) r k fs
  | [], _, _ => rfl
  | none :: t, k, h => by rw [zfv, zfv, zfv_ag g r t (k + 1) (fun q hq => h q (List.mem_cons_of_mem _ hq))]
  | some q :: t, k, h => by
    rw [zfv, zfv, zfv_ag g r t (k + 1) (fun q hq => h q (List.mem_cons_of_mem _ hq))]
    have e : zr (gA g ad) q = zr (gA g ad2) q := congrArg Value.ref (h q List.mem_cons_self)
    rw [e]
theorem zcell_ag (g : zG) {ad ad2 : Nat → Nat} {d d2 : zD} {p lo hi : Nat} (hr : rfOk lo hi p = true) (ha : ∀ q, lo ≤ q → q < hi → ad q = ad2 q) (hd : d p = d2 p) : zcell (gA g ad) d p = zcell (gA g ad2) d2 p := by
  unfold rfOk at hr
  unfold zcell
  rw [hd]
  cases hz : zsh p with
  | inr a => rfl
  | inl o =>
    rw [hz] at hr
    have hr' := List.all_eq_true.mp hr
    show Sum.inr (o.1, zfv (gA g ad) (d2 p) 0 o.2) = Sum.inr (o.1, zfv (gA g ad2) (d2 p) 0 o.2)
    rw [zfv_ag g (d2 p) o.2 0 (fun q hq => by
      have := of_decide_eq_true (hr' (some q) hq)
      exact ha q this.1 this.2)]
theorem range67 : List.range 67 = List.range 37 ++ (List.range 29).map (· + 37) ++ [66] := by decide +kernel
theorem zw_glue (g : zG) {ad adM ad2 : Nat → Nat} {d d2 : zD} {q : Nat} (h1 : ∀ p, p < 37 → ad2 p = ad p) (h2 : ∀ p, 37 ≤ p → p < 66 → ad2 p = adM p) (h3 : ad2 66 = q) (e1 : ∀ p, p < 37 → d2 p = d p) (e2 : ∀ p, 37 ≤ p → p < 66 → d2 p = dM0 p) (e3 : ∀ i, d2 66 i = 0) : zwK (gA g ad) d ++ mW g adM ++ [(q, zAL g 1)] = zw (gA g ad2) d2 := by
  have hz : zw (gA g ad2) d2 = (List.range 67).map (fun p => (ad2 p, zcell (gA g ad2) d2 p)) := rfl
  rw [hz, range67, List.map_append, List.map_append]
  have a1 : zwK (gA g ad) d = (List.range 37).map (fun p => (ad2 p, zcell (gA g ad2) d2 p)) := by
    refine List.map_congr_left (fun p hp => ?_)
    have hp := List.mem_range.mp hp
    show (ad p, zcell (gA g ad) d p) = (ad2 p, zcell (gA g ad2) d2 p)
    rw [h1 p hp, zcell_ag g (ad := ad) (ad2 := ad2) (rf_lo p hp) (fun q _ hq => (h1 q hq).symm) (e1 p hp).symm]
  have a2 : mW g adM = ((List.range 29).map (· + 37)).map (fun p => (ad2 p, zcell (gA g ad2) d2 p)) := by
    refine List.map_congr_left (fun p hp => ?_)
    obtain ⟨k, hk, rfl⟩ := List.mem_map.mp hp
    have hk := List.mem_range.mp hk
    show (adM (k + 37), zcell (gA g adM) dM0 (k + 37)) = (ad2 (k + 37), zcell (gA g ad2) d2 (k + 37))
    rw [h2 (k + 37) (by omega) (by omega), zcell_ag g (ad := adM) (ad2 := ad2) (rf_hi (k + 37) (by omega) (by omega)) (fun q h3 h4 => (h2 q h3 h4).symm) (e2 (k + 37) (by omega) (by omega)).symm]
  have a3 : [(q, zAL g 1)] = [66].map (fun p => (ad2 p, zcell (gA g ad2) d2 p)) := by
    show [(q, zAL g 1)] = [(ad2 66, zcell (gA g ad2) d2 66)]
    rw [h3, zcell_l (gA g ad2) d2 (p := 66) (n := 1) rfl]
    have : (fun i => Int64.ofInt (d2 66 i)) = fun _ => Int64.ofInt 0 := by funext i; rw [e3 i]
    rw [this]; rfl
  rw [a1, a2, a3]
def d67 (d : zD) : zD := fun p i => if p < 37 then d p i else if p < 66 then dM0 p i else if p = 66 then 0 else d p i
def ad67 (ad adM : Nat → Nat) (q : Nat) : Nat → Nat := fun p => if p < 37 then ad p else if p < 66 then adM p else q
theorem IC_67 {d : zD} {h : Hl} {ord : Nat → Nat} {tl : Nat} {tp : Nat → Nat} {fl : Int} (I : IC d h ord tl tp fl) : IC (d67 d) h ord tl tp fl := by
  refine I.of (ps := (List.range 30).map (· + 37)) (fun p hp => ?_) (by decide)
  funext i
  unfold d67
  by_cases c : p < 37
  · rw [if_pos c]
  · have hc : 66 < p := Nat.lt_of_not_le fun z => hp (List.mem_map.mpr ⟨p - 37, List.mem_range.mpr (by omega), by omega⟩)
    rw [if_neg c, if_neg (by omega), if_neg (by omega)]
theorem IM_67 (d : zD) : IM (d67 d) h0 (leastO h0) 0 tp0 0 := ⟨Wf_h0, ⟨⟨rfl, rfl, rfl, rfl, rfl, rfl⟩, fun i hi => absurd hi (Nat.not_lt_zero _), fun i hi => absurd hi (Nat.not_lt_zero _), fun i hi => absurd hi (Nat.not_lt_zero _)⟩, fun i hi => absurd hi (Nat.not_lt_zero _), ⟨rfl, by decide, fun i hi => absurd hi (Nat.not_lt_zero _)⟩, rfl, ⟨fun i hi => absurd hi (Nat.not_lt_zero _), fun i j hi => absurd hi (Nat.not_lt_zero _)⟩⟩
/-- the law from its entry: all cells are made, then the loop -/
theorem law_start (l : Launch) (hl0 : l.stackTraces = false) {x : zX} {g : zG} (hg : zAmOk g) {adK adV aX : Nat → Nat} (hs : zStr g adK adV) (hth : zThr g aX) {F : State → Prop} {b n : Nat} {xs : Nat → Int32} (hX : yX x b n xs) (hn : n ≤ 3072) (fin : ∀ (g2 : zG) (d : zD) (i ce sl : Nat), ce ≤ 601024 → sl ≤ 7293034 → yV l x g2 mLaw room_1 ce sl F 949 (lwL g2 b i) [] d) : cV l x g mLaw room_1 0 0 F 0 [(0, zs b)] [] [] := by
  refine c_new [.null, zi 0, zi 0, .null, .null, .null, .null, .null, .null, .null, .null] (ci := 7) (C := RX7) (T := TX7) (N := 11) (ty := tyX7) rfl uinX7 tyX7_ok (zTB_in 153 (by decide +kernel) rfl) (zTB_in 154 (by decide +kernel) rfl) (zTB_in 132 (by decide +kernel) rfl) (by decide +kernel) (Nat.le_of_ble_eq_true rfl) (Nat.le_of_ble_eq_true rfl) dL_law_0 (fun q0 => ?_)
  refine c_dup dL_law_3 rfl ?_
  refine c_callL [] (k_X7_init l hg q0) mk_X7_init rfl (zTB_in 156 (by decide +kernel) rfl) ml_RL_21 ⟨Nat.le_of_ble_eq_true rfl, Nat.le_of_ble_eq_true rfl⟩ ⟨Nat.le_of_ble_eq_true rfl, Nat.le_of_ble_eq_true rfl⟩ rfl rfl (Nat.le_of_ble_eq_true rfl) dL_law_4 (fun w1 hw1 => ?_)
  obtain ⟨ad, d, had, hI, rfl⟩ := hw1
  subst had
  refine c_ws (zwK (gA g ad) d) rfl ?_
  refine c_astore_n (L' := [(0, _), (1, _)]) dL_law_7 rfl (by decide) rfl rfl ?_
  refine c_new [zi 0, .null, .null, .null, .null, .null, .null, .null, .null, .null, .null, .null, .null, .null, .null, .null, .null, .null, .null, .null, .null, zi 0, zi 0, zi 0, zi 0, zi 0, zi 0, zi 0, zi 0, zi 0, zi 0, zi 0, zi 0, .null, .null, .null, .null, zi 0, .null, zi 0, .null, .null, .null] (ci := 8) (C := RX8) (T := TX8) (N := 43) (ty := tyX8) rfl uinX8 tyX8_ok (zTB_in 1040 (by decide +kernel) rfl) (zTB_in 1041 (by decide +kernel) rfl) (zTB_in 141 (by decide +kernel) rfl) (by decide +kernel) (Nat.le_of_ble_eq_true rfl) (Nat.le_of_ble_eq_true rfl) dL_law_8 (fun m0 => ?_)
  refine c_dup dL_law_11 rfl ?_
  refine c_callL (zwK (gA g ad) d) (k_X8_init l hg m0) mk_X8_init rfl (zTB_in 1043 (by decide +kernel) rfl) ml_RL_24 ⟨Nat.le_of_ble_eq_true rfl, Nat.le_of_ble_eq_true rfl⟩ ⟨Nat.le_of_ble_eq_true rfl, Nat.le_of_ble_eq_true rfl⟩ rfl rfl (Nat.le_of_ble_eq_true rfl) dL_law_12 (fun w1 hw1 => ?_)
  obtain ⟨adM, hadM, rfl⟩ := hw1
  subst hadM
  refine c_astore_n (L' := [(0, _), (1, _), (2, _)]) dL_law_15 rfl (by decide) rfl rfl ?_
  refine c_iconst dL_law_16 ?_
  refine c_newL (n := 1) (by decide) (Nat.le_of_ble_eq_true rfl) (Nat.le_of_ble_eq_true rfl) dL_law_17 (fun q66 => ?_)
  refine c_astore_n (L' := [(0, _), (1, _), (2, _), (3, _)]) dL_law_19 rfl (by decide) rfl rfl ?_
  refine c_iconst dL_law_20 ?_
  refine c_istore (L' := [(0, _), (1, _), (2, _), (3, _), (4, _)]) dL_law_21 (by decide) rfl rfl ?_
  refine cV_yV (ad := ad67 ad adM q66) (d := d67 d) (zw_glue g (fun p hp => if_pos hp) (fun p h1 h2 => by unfold ad67; rw [if_neg (by omega), if_pos h2]) rfl (fun p hp => by funext i; unfold d67; rw [if_pos hp]) (fun p h1 h2 => by funext i; unfold d67; rw [if_neg (by omega), if_pos h2]) (fun i => rfl)) ?_
  refine y_LL (lwL (gA g (ad67 ad adM q66)) b 0) rfl ?_
  exact y_widen (Nat.le_of_ble_eq_true rfl) (Nat.le_of_ble_eq_true rfl) (law_loop l hl0 (g := gA g (ad67 ad adM q66)) hg hs hth hX hn (fin _) (n + 7) 0 (d67 d) h0 (leastO h0) 0 tp0 0 (IC_67 hI) (IM_67 d) (by omega) (by omega))
