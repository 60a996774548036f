/-! the reference: small calls -/
theorem IM.ra {d : zD} {h : Hl} {ord : Nat → Nat} {tl : Nat} {tp : Nat → Nat} {fl : Int} (I : IM d h ord tl tp fl) (v : Int) : IM (zu d 37 0 v) h ord tl tp fl := I.of (ps := [37]) (zF.rf.up (by decide)) (by decide) (by rw [zu_row, if_neg (by decide)]) (by rw [zu_row, if_neg (by decide)])
theorem MF.ra {d : zD} (v : Int) : MF d (zu d 37 0 v) := MF.of (ps := [37]) (zF.rf.up (by decide)) (by decide)
theorem HM.ra {d : zD} {h : Hl} (H : HM d h) (v : Int) : HM (zu d 37 0 v) h := HM.of H (ps := [37]) (zF.rf.up (by decide)) (by decide)
theorem anM.rf {d d' : zD} {h : Hl} {ord : Nat → Nat} {tl : Nat} {tp : Nat → Nat} {fl v u : Int} (M : MF d d') (I : IM d' h ord tl tp fl) (e : u = v) : anM d h ord tl tp fl v (some (zi u)) d' := ⟨by rw [e], M, I⟩
theorem t8_fault (l : Launch) {g : zG} (hg : zAmOk g) {d : zD} {h : Hl} {ord : Nat → Nat} {tl : Nat} {tp : Nat → Nat} {fl : Int} (I : IM d h ord tl tp fl) : zC l g mX8_fault 1 [zr g 37] d (anM d h ord tl tp fl fl) := by
  refine zC_of (L := [(0, _)]) mk_X8_fault (Nat.le_of_ble_eq_true rfl) hg rfl (fun x => ?_)
  refine z_aload_n 0 dX8_fault_0 rfl rfl ?_
  refine z_iconst dX8_fault_1 ?_
  refine z_puti fp_RX8_95 (by decide) rfl rfl dX8_fault_2 ?_
  refine z_aload_n 0 dX8_fault_5 rfl rfl ?_
  refine z_geti fl_RX8_217 (by decide) rfl rfl dX8_fault_6 ?_
  exact z_iret rfl dX8_fault_9 (anM.rf (MF.ra 0) (I.ra 0) (by rw [zu_row, if_neg (by decide)]; exact I.2.2.2.2.1))
theorem t8_thrown (l : Launch) {g : zG} (hg : zAmOk g) (d : zD) : zC l g mX8_thrown 1 [zr g 37] d (zpu (zi (d 37 0)) d) := by
  refine zC_of (L := [(0, _)]) mk_X8_thrown (Nat.le_of_ble_eq_true rfl) hg rfl (fun x => ?_)
  refine z_aload_n 0 dX8_thrown_0 rfl rfl ?_
  refine z_geti fl_RX8_95 (by decide) rfl rfl dX8_thrown_1 ?_
  exact z_iret rfl dX8_thrown_4 (⟨rfl, rfl⟩)
theorem t8_isVoter (l : Launch) {g : zG} (hg : zAmOk g) {d : zD} {h : Hl} (w : Wf h) (H : HM d h) {a : Int} (ha : zin a) : zC l g mX8_isVoter 2 [zr g 37, zi a] d (zpu (zi (zb (vB h a))) d) := by
  have w4 := w.2.2.2.1
  refine zC_of (L := [(0, _), (1, _)]) mk_X8_isVoter (Nat.le_of_ble_eq_true rfl) hg rfl (fun x => ?_)
  refine z_iload_n 1 dX8_isVoter_0 rfl rfl ?_
  refine z_iconst dX8_isVoter_1 ?_
  refine z_aload_n 0 dX8_isVoter_2 rfl rfl ?_
  refine z_getr fl_RX8_7 (by decide) rfl rfl dX8_isVoter_3 ?_
  refine z_iconst dX8_isVoter_6 ?_
  refine z_iald 3 (by decide) rfl rfl (by decide) (by decide) dX8_isVoter_7 ?_
  refine z_iconst dX8_isVoter_8 ?_
  rw [H.1.2.2.2.1]
  refine z_isub dX8_isVoter_9 ?_
  refine z_cs (t8_in l hg d (a := a) (b := 0) (c := (hV h : Int) - 1) ha (by decide) (by omega)) mk_X8_in ms_X8_in ml_RX8_106 (by omega) rfl rfl (Nat.le_of_ble_eq_true rfl) dX8_isVoter_10 (zpure ?_)
  exact z_bret rfl dX8_isVoter_13 (⟨by rw [vB, show decide (0 ≤ a ∧ a ≤ (hV h : Int) - 1) = decide (0 ≤ a ∧ a < (hV h : Int)) from decide_eq_decide.mpr (by omega)], rfl⟩)
theorem t8_isMotion (l : Launch) {g : zG} (hg : zAmOk g) {d : zD} {h : Hl} (w : Wf h) (H : HM d h) {a : Int} (ha : zin a) : zC l g mX8_isMotion 2 [zr g 37, zi a] d (zpu (zi (zb (mB h a))) d) := by
  have w3 := w.2.2.1
  refine zC_of (L := [(0, _), (1, _)]) mk_X8_isMotion (Nat.le_of_ble_eq_true rfl) hg rfl (fun x => ?_)
  refine z_iload_n 1 dX8_isMotion_0 rfl rfl ?_
  refine z_iconst dX8_isMotion_1 ?_
  refine z_aload_n 0 dX8_isMotion_2 rfl rfl ?_
  refine z_getr fl_RX8_7 (by decide) rfl rfl dX8_isMotion_3 ?_
  refine z_iconst dX8_isMotion_6 ?_
  refine z_iald 1 (by decide) rfl rfl (by decide) (by decide) dX8_isMotion_7 ?_
  refine z_iconst dX8_isMotion_8 ?_
  rw [H.1.2.1]
  refine z_isub dX8_isMotion_9 ?_
  refine z_cs (t8_in l hg d (a := a) (b := 0) (c := (hN h : Int) - 1) ha (by decide) (by omega)) mk_X8_in ms_X8_in ml_RX8_106 (by omega) rfl rfl (Nat.le_of_ble_eq_true rfl) dX8_isMotion_10 (zpure ?_)
  exact z_bret rfl dX8_isMotion_13 (⟨by rw [mB, show decide (0 ≤ a ∧ a ≤ (hN h : Int) - 1) = decide (0 ≤ a ∧ a < (hN h : Int)) from decide_eq_decide.mpr (by omega)], rfl⟩)
theorem t8_isSet (l : Launch) {g : zG} (hg : zAmOk g) {d : zD} {h : Hl} (w : Wf h) (H : HM d h) {a : Int} (ha : zin a) : zC l g mX8_isSetOfVoters 2 [zr g 37, zi a] d (zpu (zi (zb (tB h a))) d) := by
  have w4 := w.2.2.2.1
  have hp := p512 w4
  have hp0 : 0 < 2 ^ hV h := Nat.two_pow_pos _
  refine zC_of (L := [(0, _), (1, _)]) mk_X8_isSetOfVoters (Nat.le_of_ble_eq_true rfl) hg rfl (fun x => ?_)
  refine z_iload_n 1 dX8_isSetOfVoters_0 rfl rfl ?_
  refine z_iconst dX8_isSetOfVoters_1 ?_
  refine z_iconst dX8_isSetOfVoters_2 ?_
  refine z_aload_n 0 dX8_isSetOfVoters_3 rfl rfl ?_
  refine z_getr fl_RX8_7 (by decide) rfl rfl dX8_isSetOfVoters_4 ?_
  refine z_iconst dX8_isSetOfVoters_7 ?_
  refine z_iald 3 (by decide) rfl rfl (by decide) (by decide) dX8_isSetOfVoters_8 ?_
  rw [H.1.2.2.2.1]
  refine z_ishl _ (zshl (s := 1) (m := hV h) (by omega) (by omega)) dX8_isSetOfVoters_9 ?_
  rw [Nat.one_mul]
  refine z_iconst dX8_isSetOfVoters_10 ?_
  refine z_isub dX8_isSetOfVoters_11 ?_
  refine z_cs (t8_in l hg d (a := a) (b := 0) (c := ((2 ^ hV h : Nat) : Int) - 1) ha (by decide) (by omega)) mk_X8_in ms_X8_in ml_RX8_106 (by omega) rfl rfl (Nat.le_of_ble_eq_true rfl) dX8_isSetOfVoters_12 (zpure ?_)
  exact z_bret rfl dX8_isSetOfVoters_15 (⟨by rw [tB, show decide (0 ≤ a ∧ a ≤ ((2 ^ hV h : Nat) : Int) - 1) = decide (0 ≤ a ∧ a < ((2 ^ hV h : Nat) : Int)) from decide_eq_decide.mpr (by omega)], rfl⟩)
theorem t8_form (l : Launch) {g : zG} (hg : zAmOk g) {d : zD} {h : Hl} {ord : Nat → Nat} {tl : Nat} {tp : Nat → Nat} {fl : Int} (I : IM d h ord tl tp fl) {a : Int} (ha : zin a) : zC l g mX8_form 4 [zr g 37, zi a] d (anM d h ord tl tp fl (formS h a)) := by
  have w := I.1
  have w3 := w.2.2.1
  have H := (I.ra 0).2.1
  have hp2 := p64 w3
  have hp0 : 0 < 2 ^ hN h := Nat.two_pow_pos _
  refine zC_of (L := [(0, _), (1, _)]) mk_X8_form (Nat.le_of_ble_eq_true rfl) hg rfl (fun x => ?_)
  refine z_aload_n 0 dX8_form_0 rfl rfl ?_
  refine z_iconst dX8_form_1 ?_
  refine z_puti fp_RX8_95 (by decide) rfl rfl dX8_form_2 ?_
  refine z_iload_n 1 dX8_form_5 rfl rfl ?_
  refine z_iconst dX8_form_6 ?_
  refine z_iconst dX8_form_7 ?_
  refine z_aload_n 0 dX8_form_8 rfl rfl ?_
  refine z_getr fl_RX8_7 (by decide) rfl rfl dX8_form_9 ?_
  refine z_iconst dX8_form_12 ?_
  refine z_iald 1 (by decide) rfl rfl (by decide) (by decide) dX8_form_13 ?_
  rw [H.1.2.1]
  refine z_ishl _ (zshl (s := 1) (m := hN h) (by omega) (by omega)) dX8_form_14 ?_
  rw [Nat.one_mul]
  refine z_iconst dX8_form_15 ?_
  refine z_isub dX8_form_16 ?_
  refine z_cs (t8_in l hg _ (a := a) (b := 0) (c := ((2 ^ hN h : Nat) : Int) - 1) ha (by decide) (by omega)) mk_X8_in ms_X8_in ml_RX8_106 (by omega) rfl rfl (Nat.le_of_ble_eq_true rfl) dX8_form_17 (zpure ?_)
  refine z_if_eq_b 31 dX8_form_20 (by decide) (fun h_20 => ?_) (fun h_20 => ?_)
  · refine z_iconst dX8_form_31 ?_
    have h20 := of_decide_eq_false h_20
    exact z_iret rfl dX8_form_32 (anM.rf (MF.ra 0) (I.ra 0) (by rw [formS, if_neg (by omega)]))
  · refine z_aload_n 0 dX8_form_23 rfl rfl ?_
    refine z_iload_n 1 dX8_form_24 rfl rfl ?_
    have h20 := of_decide_eq_true h_20
    refine z_top ((a.toNat : Nat) : Int) (by omega) ?_
    refine z_cv (t8_formOf l hg w H (s := a.toNat)) mk_X8_formOf mi_X8_formOf ml_RX8_243 (by omega) (by decide) rfl rfl rfl rfl (Nat.le_of_ble_eq_true rfl) dX8_form_25 (zpure ?_)
    refine z_goto 32 dX8_form_28 (by decide) ?_
    exact z_iret rfl dX8_form_32 (anM.rf (MF.ra 0) (I.ra 0) (by rw [formS, if_pos (by omega)]))
theorem t8_prefers (l : Launch) {g : zG} (hg : zAmOk g) {d : zD} {h : Hl} {ord : Nat → Nat} {tl : Nat} {tp : Nat → Nat} {fl : Int} (I : IM d h ord tl tp fl) {a b : Int} (ha : zin a) (hb : zin b) : zC l g mX8_prefers 4 [zr g 37, zi a, zi b] d (anM d h ord tl tp fl (preS h a b)) := by
  have w := I.1
  have H := (I.ra 0).2.1
  refine zC_of (L := [(0, _), (1, _), (2, _)]) mk_X8_prefers (Nat.le_of_ble_eq_true rfl) hg rfl (fun x => ?_)
  refine z_aload_n 0 dX8_prefers_0 rfl rfl ?_
  refine z_iconst dX8_prefers_1 ?_
  refine z_puti fp_RX8_95 (by decide) rfl rfl dX8_prefers_2 ?_
  refine z_iload_n 1 dX8_prefers_5 rfl rfl ?_
  refine z_iconst dX8_prefers_6 ?_
  refine z_sipush dX8_prefers_7 (by decide) ?_
  refine z_cs (t8_in l hg _ (a := a) (b := 0) (c := 255) ha (by decide) (by decide)) mk_X8_in ms_X8_in ml_RX8_106 (by omega) rfl rfl (Nat.le_of_ble_eq_true rfl) dX8_prefers_10 (zpure ?_)
  refine z_if_eq_b 27 dX8_prefers_13 (by decide) (fun h_13 => ?_) (fun h_13 => ?_)
  · refine z_iconst dX8_prefers_27 ?_
    have hno : ¬ (fB a = true ∧ fB b = true) := fun z => by have := of_decide_eq_false h_13; have := of_decide_eq_true z.1; omega
    exact z_iret rfl dX8_prefers_28 (anM.rf (MF.ra 0) (I.ra 0) (by rw [preS, if_neg hno]))
  · refine z_iload_n 2 dX8_prefers_16 rfl rfl ?_
    refine z_iconst dX8_prefers_17 ?_
    refine z_sipush dX8_prefers_18 (by decide) ?_
    refine z_cs (t8_in l hg _ (a := b) (b := 0) (c := 255) hb (by decide) (by decide)) mk_X8_in ms_X8_in ml_RX8_106 (by omega) rfl rfl (Nat.le_of_ble_eq_true rfl) dX8_prefers_21 (zpure ?_)
    refine z_if_ne_b 29 dX8_prefers_24 (by decide) (fun h_24 => ?_) (fun h_24 => ?_)
    · have h13 := of_decide_eq_true h_13
      have h24 := of_decide_eq_true h_24
      refine z_aload_n 0 dX8_prefers_29 rfl rfl ?_
      refine z_cv (t8_laysLikes l hg w H) mk_X8_laysLikes mi_X8_laysLikes ml_RX8_272 (by omega) (by decide) rfl rfl rfl rfl (Nat.le_of_ble_eq_true rfl) dX8_prefers_30 (zvoid fun d_30 q_30 => ?_)
      obtain ⟨s1, s2⟩ := q_30
      have H2 := HM.of H s1 (by decide)
      refine z_aload_n 0 dX8_prefers_33 rfl rfl ?_
      refine z_iload_n 1 dX8_prefers_34 rfl rfl ?_
      refine z_iload_n 2 dX8_prefers_35 rfl rfl ?_
      refine z_top2 ((a.toNat : Nat) : Int) (by omega) ?_
      refine z_top ((b.toNat : Nat) : Int) (by omega) ?_
      refine z_cv (t8_preferring l hg w H2 s2 (f := a.toNat) (o := b.toNat) (by omega) (by omega)) mk_X8_preferring mi_X8_preferring ml_RX8_259 (by omega) (by decide) rfl rfl rfl rfl (Nat.le_of_ble_eq_true rfl) dX8_prefers_36 (zpure ?_)
      exact z_iret rfl dX8_prefers_39 (anM.rf ((MF.ra 0).tr (MF.of s1 (by decide))) ((I.ra 0).of s1 (by decide) (by rw [s1 37 (by decide)]) (by rw [s1 37 (by decide)])) (by rw [preS, if_pos ⟨by rw [fB, decide_eq_true_eq]; omega, by rw [fB, decide_eq_true_eq]; omega⟩]))
    · refine z_iconst dX8_prefers_27 ?_
      have hno : ¬ (fB a = true ∧ fB b = true) := fun z => by have := of_decide_eq_false h_24; have := of_decide_eq_true z.2; omega
      exact z_iret rfl dX8_prefers_28 (anM.rf (MF.ra 0) (I.ra 0) (by rw [preS, if_neg hno]))
theorem wei_IM {d d' : zD} {h : Hl} {ord : Nat → Nat} {tl : Nat} {tp : Nat → Nat} {fl : Int} (I : IM d h ord tl tp fl) (e : zF [37, 48] d d') (e21 : d' 37 21 = d 37 21) (e22 : d' 37 22 = d 37 22) {k : Nat} {y : Int} (e48 : ∀ i, d' 48 i = if i = k then y else d 48 i) (hy : -9 ≤ y ∧ y ≤ 9) (_hk : True) : IM d' (setW h k y) ord tl tp fl := by
  obtain ⟨w, ⟨h1, h2, h3, h4⟩, O, T, hf, ho⟩ := I
  refine ⟨Wf_setW w hy, ⟨by rw [e 38 (by decide)]; exact h1, fun i hi => by rw [e 40 (by decide), e 41 (by decide), e 42 (by decide), e 43 (by decide)]; exact h2 i hi, fun i hi => ?_, fun i hi => by rw [e 50 (by decide), e 51 (by decide), e 52 (by decide)]; exact h4 i hi⟩, fun i hi => by rw [e 56 (by decide)]; exact O i hi, T.of e21 (e 57 (by decide)), by rw [e22]; exact hf, ho⟩
  rw [e48]
  show _ = if i = k then y else hwe h i
  split
  · rfl
  · exact h3 i hi
theorem t8_weigh (l : Launch) {g : zG} (hg : zAmOk g) {d : zD} {h : Hl} {ord : Nat → Nat} {tl : Nat} {tp : Nat → Nat} {fl : Int} (I : IM d h ord tl tp fl) {v c y : Int} (hv : zin v) (hc : zin c) (hy : zin y) : zC l g mX8_weigh 3 [zr g 37, zi v, zi c, zi y] d (anM d (if weiB h v c y = true then setW h (8 * v.toNat + c.toNat) y else h) ord tl tp fl (zb (weiB h v c y))) := by
  have w := I.1
  have w4 := w.2.2.2.1
  have H := (I.ra 0).2.1
  have hno : weiB h v c y = false → anM d (if weiB h v c y = true then setW h (8 * v.toNat + c.toNat) y else h) ord tl tp fl (zb (weiB h v c y)) (some (zi (zb false))) (zu d 37 0 0) := fun hf => ⟨by rw [hf], MF.ra 0, by rw [hf]; exact I.ra 0⟩
  refine zC_of (L := [(0, _), (1, _), (2, _), (3, _)]) mk_X8_weigh (Nat.le_of_ble_eq_true rfl) hg rfl (fun x => ?_)
  refine z_aload_n 0 dX8_weigh_0 rfl rfl ?_
  refine z_iconst dX8_weigh_1 ?_
  refine z_puti fp_RX8_95 (by decide) rfl rfl dX8_weigh_2 ?_
  refine z_aload_n 0 dX8_weigh_5 rfl rfl ?_
  refine z_iload_n 1 dX8_weigh_6 rfl rfl ?_
  refine z_cv (t8_isVoter l hg w H hv) mk_X8_isVoter mi_X8_isVoter ml_RX8_305 (by omega) (by decide) rfl rfl rfl rfl (Nat.le_of_ble_eq_true rfl) dX8_weigh_7 (zpure ?_)
  refine z_if_eq_b 34 dX8_weigh_10 (by decide) (fun h_10 => ?_) (fun h_10 => ?_)
  · refine z_iconst dX8_weigh_34 ?_
    have hf : weiB h v c y = false := by rw [weiB, h_10, Bool.false_and]
    exact z_bret (b := false) rfl dX8_weigh_35 (hno hf)
  · refine z_iload_n 2 dX8_weigh_13 rfl rfl ?_
    refine z_iconst dX8_weigh_14 ?_
    refine z_bipush dX8_weigh_15 (by decide) ?_
    refine z_cs (t8_in l hg _ (a := c) (b := 0) (c := 7) hc (by decide) (by decide)) mk_X8_in ms_X8_in ml_RX8_106 (by omega) rfl rfl (Nat.le_of_ble_eq_true rfl) dX8_weigh_17 (zpure ?_)
    refine z_if_eq_b 34 dX8_weigh_20 (by decide) (fun h_20 => ?_) (fun h_20 => ?_)
    · refine z_iconst dX8_weigh_34 ?_
      have hf : weiB h v c y = false := by rw [weiB, show decide (0 ≤ c ∧ c < 8) = false from decide_eq_false (by have := of_decide_eq_false h_20; omega), Bool.false_and, Bool.and_false]
      exact z_bret (b := false) rfl dX8_weigh_35 (hno hf)
    · refine z_iload_n 3 dX8_weigh_23 rfl rfl ?_
      refine z_bipush dX8_weigh_24 (by decide) ?_
      refine z_bipush dX8_weigh_26 (by decide) ?_
      refine z_cs (t8_in l hg _ (a := y) (b := -9) (c := 9) hy (by decide) (by decide)) mk_X8_in ms_X8_in ml_RX8_106 (by omega) rfl rfl (Nat.le_of_ble_eq_true rfl) dX8_weigh_28 (zpure ?_)
      refine z_if_ne_b 36 dX8_weigh_31 (by decide) (fun h_31 => ?_) (fun h_31 => ?_)
      · have ht : weiB h v c y = true := by rw [weiB, h_10, h_31, show decide (0 ≤ c ∧ c < 8) = true from decide_eq_true (by have := of_decide_eq_true h_20; omega)]; rfl
        have h10 := of_decide_eq_true h_10
        have h20 := of_decide_eq_true h_20
        have h31 := of_decide_eq_true h_31
        refine z_aload_n 0 dX8_weigh_36 rfl rfl ?_
        refine z_getr fl_RX8_40 (by decide) rfl rfl dX8_weigh_37 ?_
        refine z_bipush dX8_weigh_40 (by decide) ?_
        refine z_iload_n 1 dX8_weigh_42 rfl rfl ?_
        refine z_imul dX8_weigh_43 ?_
        refine z_iload_n 2 dX8_weigh_44 rfl rfl ?_
        refine z_iadd dX8_weigh_45 ?_
        refine z_iload_n 3 dX8_weigh_46 rfl rfl ?_
        refine z_iast (8 * v.toNat + c.toNat) (by decide) rfl (by omega) (by omega) (by decide) dX8_weigh_47 ?_
        refine z_iconst dX8_weigh_48 ?_
        have aF : zF [37, 48] d (zu (zu d 37 0 0) 48 (8 * v.toNat + c.toNat) y) := (zF.rf.up (by decide)).up (by decide)
        exact z_bret (b := true) rfl dX8_weigh_49 (⟨by rw [ht], MF.of aF (by decide), by rw [if_pos ht]; exact wei_IM I aF (by rw [zu_ne (by decide), zu_row, if_neg (by decide)]) (by rw [zu_ne (by decide), zu_row, if_neg (by decide)]) (fun i => by rw [zu_row, zu_ne (by decide)]) (by omega) trivial⟩)
      · refine z_iconst dX8_weigh_34 ?_
        have hf : weiB h v c y = false := by rw [weiB, h_31, Bool.and_false, Bool.and_false]
        exact z_bret (b := false) rfl dX8_weigh_35 (hno hf)
/-! motion, weight and likes: what they answer -/
theorem grN_pc {f : Nat → Nat} {n : Nat} (ho : Ord n f) : ∀ k, k ≤ n → pcN (grN f k) n = k
  | 0, _ => pcN_zero _
  | k + 1, hk => by
    have ih := grN_pc ho k (by omega)
    have hb : (grN f k).testBit (f k) = false := by
      rw [← Bool.not_eq_true]
      intro z
      obtain ⟨i, h1, h2⟩ := (grN_bit f (f k) k).mp z
      have := ho.2 i k (by omega) (by omega) h2
      omega
    rw [grN, pcN_or hb, ih, if_pos (ho.1 k (by omega))]
theorem pcN_le (s : Nat) : ∀ k, pcN s k ≤ k
  | 0 => Nat.le_refl _
  | k + 1 => by have := pcN_le s k; rw [pcN]; split <;> omega
theorem pcN_all {s : Nat} : ∀ n, pcN s n = n → ∀ i, i < n → s.testBit i = true
  | 0, _, i, hi => absurd hi (by omega)
  | n + 1, h, i, hi => by
    rw [pcN] at h
    have := pcN_le s n
    by_cases c : s.testBit n = true
    · rw [if_pos c] at h
      by_cases e : i = n
      · rw [e]; exact c
      · exact pcN_all n (by omega) i (by omega)
    · rw [if_neg c] at h; omega
theorem Ord.sur {f : Nat → Nat} {n : Nat} (ho : Ord n f) {m : Nat} (hm : m < n) : ∃ p, p < n ∧ f p = m := (grN_bit f m n).mp (pcN_all n (grN_pc ho n (Nat.le_refl _)) m hm)
/-- where m stands -/
noncomputable def plcF (h : Hl) (ord : Nat → Nat) (m : Nat) : Nat := Classical.epsilon (fun p => p < hN h ∧ ord p = m)
theorem plc_is {h : Hl} {ord : Nat → Nat} (ho : Ord (hN h) ord) {m : Nat} (hm : m < hN h) : plcF h ord m < hN h ∧ ord (plcF h ord m) = m := Classical.epsilon_spec (ho.sur hm)
def motG (h : Hl) (a b : Int) : Bool := mB h a && decide (0 ≤ b ∧ b ≤ 4)
noncomputable def motV (h : Hl) (ord : Nat → Nat) (a b : Int) : Int := if b = 0 then (hso h a.toNat : Int) else if b = 1 then hpa h a.toNat else if b = 2 then (hpl h a.toNat : Int) else if b = 3 then (hmi h a.toNat : Int) else (plcF h ord a.toNat : Int)
def weiG (h : Hl) (a b : Int) : Bool := vB h a && decide (0 ≤ b ∧ b < 8)
def weiV (h : Hl) (a b : Int) : Int := hwe h (8 * a.toNat + b.toNat)
def likG (h : Hl) (a b : Int) : Bool := vB h a && fB b
def likV (h : Hl) (a b : Int) : Int := likeF h a.toNat b.toNat
/-- the reference's answer where the class may throw -/
def thM (d : zD) (h : Hl) (ord : Nat → Nat) (tl : Nat) (tp : Nat → Nat) (fl : Int) (b : Bool) (v : Int) : Option Value → zD → Prop := fun r d' => r = some (zi (if b = true then v else 0)) ∧ d' 37 0 = (if b = true then 0 else 1) ∧ MF d d' ∧ IM d' h ord tl tp fl
theorem thM.t {d : zD} {h : Hl} {ord : Nat → Nat} {tl : Nat} {tp : Nat → Nat} {fl : Int} (I : IM d h ord tl tp fl) {b : Bool} {v u : Int} (e : b = true) (hu : u = v) : thM d h ord tl tp fl b v (some (zi u)) (zu d 37 0 0) := ⟨by rw [if_pos e, hu], by rw [if_pos e, zu_at], MF.ra 0, I.ra 0⟩
theorem thM.f {d : zD} {h : Hl} {ord : Nat → Nat} {tl : Nat} {tp : Nat → Nat} {fl : Int} (I : IM d h ord tl tp fl) {b : Bool} {v : Int} (e : b = false) : thM d h ord tl tp fl b v (some (zi 0)) (zu d 37 0 1) := ⟨by rw [e]; rfl, by rw [e, zu_at]; rfl, MF.ra 1, I.ra 1⟩
theorem t8_placeOf (l : Launch) {g : zG} (hg : zAmOk g) {d : zD} {h : Hl} (w : Wf h) {ord : Nat → Nat} (O : ∀ i, i < hN h → d 56 i = ord i) (ho : Ord (hN h) ord) {m : Nat} (hm : m < hN h) : zC l g mX8_placeOf 1 [zr g 37, zi (m : Int)] d (zpu (zi (plcF h ord m : Nat)) d) := by
  have w3 := w.2.2.1
  obtain ⟨p1, p2⟩ := plc_is ho hm
  have key : ∀ (x : zX) (r k : Nat), k ≤ plcF h ord m → plcF h ord m - k < r → zV l x g mX8_placeOf 1 (zpu (zi (plcF h ord m : Nat)) d) 2 [(0, zr g 37), (1, zi (m : Int)), (2, zi (k : Int))] [] d := by
    intro x r
    induction r with
    | zero => intro k hk hr; omega
    | succ r ih =>
      intro k hk hr
      have e := O k (by omega)
      have ok := ho.1 k (by omega)
      refine z_aload_n 0 dX8_placeOf_2 rfl rfl ?_
      refine z_getr fl_RX8_64 (by decide) rfl rfl dX8_placeOf_3 ?_
      refine z_iload_n 2 dX8_placeOf_6 rfl rfl ?_
      refine z_iald _ (by decide) rfl rfl (by omega) (by decide) dX8_placeOf_7 ?_
      refine z_iload_n 1 dX8_placeOf_8 rfl rfl ?_
      rw [e]
      refine z_icmp_eq 18 (by omega) (by omega) dX8_placeOf_9 (by decide) (fun h_9 => ?_) (fun h_9 => ?_)
      · refine z_iload_n 2 dX8_placeOf_18 rfl rfl ?_
        rw [show k = plcF h ord m from ho.2 k _ (by omega) p1 (by omega)]
        exact z_iret rfl dX8_placeOf_19 (⟨rfl, rfl⟩)
      · refine z_iinc 2 (L' := [(0, _), (1, _), (2, _)]) dX8_placeOf_12 (by decide) rfl rfl rfl ?_
        refine z_goto 2 dX8_placeOf_15 (by decide) ?_
        have hk2 : k ≠ plcF h ord m := fun z => h_9 (by rw [z, p2])
        exact ih (k + 1) (by omega) (by omega)
  refine zC_of (L := [(0, _), (1, _)]) mk_X8_placeOf (Nat.le_of_ble_eq_true rfl) hg rfl (fun x => ?_)
  refine z_iconst dX8_placeOf_0 ?_
  refine z_istore_n (L' := [(0, _), (1, _), (2, _)]) dX8_placeOf_1 rfl (by decide) rfl rfl ?_
  exact key x (plcF h ord m + 1) 0 (by omega) (by omega)
theorem t8_motion (l : Launch) {g : zG} (hg : zAmOk g) {d : zD} {h : Hl} {ord : Nat → Nat} {tl : Nat} {tp : Nat → Nat} {fl : Int} (I : IM d h ord tl tp fl) {a b : Int} (ha : zin a) (hb : zin b) : zC l g mX8_motion 3 [zr g 37, zi a, zi b] d (thM d h ord tl tp fl (motG h a b) (motV h ord a b)) := by
  have w := I.1
  have w3 := w.2.2.1
  have H := I.2.1
  have ho := I.2.2.2.2.2
  refine zC_of (L := [(0, _), (1, _), (2, _)]) mk_X8_motion (Nat.le_of_ble_eq_true rfl) hg rfl (fun x => ?_)
  refine z_aload_n 0 dX8_motion_0 rfl rfl ?_
  refine z_aload_n 0 dX8_motion_1 rfl rfl ?_
  refine z_iload_n 1 dX8_motion_2 rfl rfl ?_
  refine z_cv (t8_isMotion l hg w H ha) mk_X8_isMotion mi_X8_isMotion ml_RX8_299 (by omega) (by decide) rfl rfl rfl rfl (Nat.le_of_ble_eq_true rfl) dX8_motion_3 (zpure ?_)
  refine z_if_eq_b 22 dX8_motion_6 (by decide) (fun h_6 => ?_) (fun h_6 => ?_)
  · refine z_iconst dX8_motion_22 ?_
    refine z_puti fp_RX8_95 (by decide) rfl rfl dX8_motion_23 ?_
    refine z_aload_n 0 dX8_motion_26 rfl rfl ?_
    refine z_geti fl_RX8_95 (by decide) rfl rfl dX8_motion_27 ?_
    rw [zu_at]
    refine z_if_le 35 (by decide) dX8_motion_30 (by decide) (fun h_30 => absurd h_30 (by decide)) (fun h_30 => ?_)
    refine z_iconst dX8_motion_33 ?_
    have hf : motG h a b = false := by rw [motG, h_6, Bool.false_and]
    exact z_iret rfl dX8_motion_34 (thM.f I hf)
  · refine z_iload_n 2 dX8_motion_9 rfl rfl ?_
    refine z_iconst dX8_motion_10 ?_
    refine z_iconst dX8_motion_11 ?_
    refine z_cs (t8_in l hg d (a := b) (b := 0) (c := 4) hb (by decide) (by decide)) mk_X8_in ms_X8_in ml_RX8_106 (by omega) rfl rfl (Nat.le_of_ble_eq_true rfl) dX8_motion_12 (zpure ?_)
    refine z_if_eq_b 22 dX8_motion_15 (by decide) (fun h_15 => ?_) (fun h_15 => ?_)
    · refine z_iconst dX8_motion_22 ?_
      refine z_puti fp_RX8_95 (by decide) rfl rfl dX8_motion_23 ?_
      refine z_aload_n 0 dX8_motion_26 rfl rfl ?_
      refine z_geti fl_RX8_95 (by decide) rfl rfl dX8_motion_27 ?_
      rw [zu_at]
      refine z_if_le 35 (by decide) dX8_motion_30 (by decide) (fun h_30 => absurd h_30 (by decide)) (fun h_30 => ?_)
      refine z_iconst dX8_motion_33 ?_
      have hf : motG h a b = false := by rw [motG, h_15, Bool.and_false]
      exact z_iret rfl dX8_motion_34 (thM.f I hf)
    · refine z_iconst dX8_motion_18 ?_
      refine z_goto 23 dX8_motion_19 (by decide) ?_
      refine z_puti fp_RX8_95 (by decide) rfl rfl dX8_motion_23 ?_
      refine z_aload_n 0 dX8_motion_26 rfl rfl ?_
      refine z_geti fl_RX8_95 (by decide) rfl rfl dX8_motion_27 ?_
      rw [zu_at]
      refine z_if_le 35 (by decide) dX8_motion_30 (by decide) (fun h_30 => ?_) (fun h_30 => absurd h_30 (by decide))
      refine z_iload_n 2 dX8_motion_35 rfl rfl ?_
      have ht : motG h a b = true := by rw [motG, h_6, h_15]; rfl
      have h6 := of_decide_eq_true h_6
      have h15 := of_decide_eq_true h_15
      obtain ⟨m1, m2, m3, m4⟩ := H.m (show a.toNat < hN h by omega)
      have hex : ∀ p, p ≠ 37 → zu d 37 0 0 p = d p := fun p hp => zu_ne hp
      rcases (show b = 0 ∨ b = 1 ∨ b = 2 ∨ b = 3 ∨ b = 4 by omega) with rfl | rfl | rfl | rfl | rfl
      · refine z_tabIn 68 0 rfl (by decide) (by decide) (by decide) rfl (by decide) dX8_motion_36 ?_
        refine z_aload_n 0 dX8_motion_68 rfl rfl ?_
        refine z_getr fl_RX8_16 (by decide) rfl rfl dX8_motion_69 ?_
        refine z_iload_n 1 dX8_motion_72 rfl rfl ?_
        refine z_iald a.toNat (by decide) rfl (by omega) (by omega) (by decide) dX8_motion_73 ?_
        exact z_iret rfl dX8_motion_74 (thM.t I ht (by rw [hex 40 (by decide), m1]; rfl))
      · refine z_tabIn 75 1 rfl (by decide) (by decide) (by decide) rfl (by decide) dX8_motion_36 ?_
        refine z_aload_n 0 dX8_motion_75 rfl rfl ?_
        refine z_getr fl_RX8_19 (by decide) rfl rfl dX8_motion_76 ?_
        refine z_iload_n 1 dX8_motion_79 rfl rfl ?_
        refine z_iald a.toNat (by decide) rfl (by omega) (by omega) (by decide) dX8_motion_80 ?_
        exact z_iret rfl dX8_motion_81 (thM.t I ht (by rw [hex 41 (by decide), m2]; rfl))
      · refine z_tabIn 82 2 rfl (by decide) (by decide) (by decide) rfl (by decide) dX8_motion_36 ?_
        refine z_aload_n 0 dX8_motion_82 rfl rfl ?_
        refine z_getr fl_RX8_22 (by decide) rfl rfl dX8_motion_83 ?_
        refine z_iload_n 1 dX8_motion_86 rfl rfl ?_
        refine z_iald a.toNat (by decide) rfl (by omega) (by omega) (by decide) dX8_motion_87 ?_
        exact z_iret rfl dX8_motion_88 (thM.t I ht (by rw [hex 42 (by decide), m3]; rfl))
      · refine z_tabIn 89 3 rfl (by decide) (by decide) (by decide) rfl (by decide) dX8_motion_36 ?_
        refine z_aload_n 0 dX8_motion_89 rfl rfl ?_
        refine z_getr fl_RX8_25 (by decide) rfl rfl dX8_motion_90 ?_
        refine z_iload_n 1 dX8_motion_93 rfl rfl ?_
        refine z_iald a.toNat (by decide) rfl (by omega) (by omega) (by decide) dX8_motion_94 ?_
        exact z_iret rfl dX8_motion_95 (thM.t I ht (by rw [hex 43 (by decide), m4]; rfl))
      · refine z_tabOut 96 (by decide) (by decide) (by decide) dX8_motion_36 ?_
        refine z_aload_n 0 dX8_motion_96 rfl rfl ?_
        refine z_iload_n 1 dX8_motion_97 rfl rfl ?_
        refine z_top ((a.toNat : Nat) : Int) (by omega) ?_
        refine z_cv (t8_placeOf l hg w (I.ra 0).2.2.1 ho (m := a.toNat) (by omega)) mk_X8_placeOf mi_X8_placeOf ml_RX8_338 (by omega) (by decide) rfl rfl rfl rfl (Nat.le_of_ble_eq_true rfl) dX8_motion_98 (zpure ?_)
        exact z_iret rfl dX8_motion_101 (thM.t I ht rfl)
theorem t8_weight (l : Launch) {g : zG} (hg : zAmOk g) {d : zD} {h : Hl} {ord : Nat → Nat} {tl : Nat} {tp : Nat → Nat} {fl : Int} (I : IM d h ord tl tp fl) {a b : Int} (ha : zin a) (hb : zin b) : zC l g mX8_weight 3 [zr g 37, zi a, zi b] d (thM d h ord tl tp fl (weiG h a b) (weiV h a b)) := by
  have w := I.1
  have w4 := w.2.2.2.1
  have H := I.2.1
  refine zC_of (L := [(0, _), (1, _), (2, _)]) mk_X8_weight (Nat.le_of_ble_eq_true rfl) hg rfl (fun x => ?_)
  refine z_aload_n 0 dX8_weight_0 rfl rfl ?_
  refine z_aload_n 0 dX8_weight_1 rfl rfl ?_
  refine z_iload_n 1 dX8_weight_2 rfl rfl ?_
  refine z_cv (t8_isVoter l hg w H ha) mk_X8_isVoter mi_X8_isVoter ml_RX8_305 (by omega) (by decide) rfl rfl rfl rfl (Nat.le_of_ble_eq_true rfl) dX8_weight_3 (zpure ?_)
  refine z_if_eq_b 23 dX8_weight_6 (by decide) (fun h_6 => ?_) (fun h_6 => ?_)
  · refine z_iconst dX8_weight_23 ?_
    refine z_puti fp_RX8_95 (by decide) rfl rfl dX8_weight_24 ?_
    refine z_aload_n 0 dX8_weight_27 rfl rfl ?_
    refine z_geti fl_RX8_95 (by decide) rfl rfl dX8_weight_28 ?_
    rw [zu_at]
    refine z_if_le 38 (by decide) dX8_weight_31 (by decide) (fun h_31 => absurd h_31 (by decide)) (fun h_31 => ?_)
    refine z_iconst dX8_weight_34 ?_
    refine z_goto 49 dX8_weight_35 (by decide) ?_
    have hf : weiG h a b = false := by rw [weiG, h_6, Bool.false_and]
    exact z_iret rfl dX8_weight_49 (thM.f I hf)
  · refine z_iload_n 2 dX8_weight_9 rfl rfl ?_
    refine z_iconst dX8_weight_10 ?_
    refine z_bipush dX8_weight_11 (by decide) ?_
    refine z_cs (t8_in l hg d (a := b) (b := 0) (c := 7) hb (by decide) (by decide)) mk_X8_in ms_X8_in ml_RX8_106 (by omega) rfl rfl (Nat.le_of_ble_eq_true rfl) dX8_weight_13 (zpure ?_)
    refine z_if_eq_b 23 dX8_weight_16 (by decide) (fun h_16 => ?_) (fun h_16 => ?_)
    · refine z_iconst dX8_weight_23 ?_
      refine z_puti fp_RX8_95 (by decide) rfl rfl dX8_weight_24 ?_
      refine z_aload_n 0 dX8_weight_27 rfl rfl ?_
      refine z_geti fl_RX8_95 (by decide) rfl rfl dX8_weight_28 ?_
      rw [zu_at]
      refine z_if_le 38 (by decide) dX8_weight_31 (by decide) (fun h_31 => absurd h_31 (by decide)) (fun h_31 => ?_)
      refine z_iconst dX8_weight_34 ?_
      refine z_goto 49 dX8_weight_35 (by decide) ?_
      have hf : weiG h a b = false := by rw [weiG, show decide (0 ≤ b ∧ b < 8) = false from decide_eq_false (by have := of_decide_eq_false h_16; omega), Bool.and_false]
      exact z_iret rfl dX8_weight_49 (thM.f I hf)
    · refine z_iconst dX8_weight_19 ?_
      refine z_goto 24 dX8_weight_20 (by decide) ?_
      refine z_puti fp_RX8_95 (by decide) rfl rfl dX8_weight_24 ?_
      refine z_aload_n 0 dX8_weight_27 rfl rfl ?_
      refine z_geti fl_RX8_95 (by decide) rfl rfl dX8_weight_28 ?_
      rw [zu_at]
      refine z_if_le 38 (by decide) dX8_weight_31 (by decide) (fun h_31 => ?_) (fun h_31 => absurd h_31 (by decide))
      have ht : weiG h a b = true := by rw [weiG, h_6, show decide (0 ≤ b ∧ b < 8) = true from decide_eq_true (by have := of_decide_eq_true h_16; omega)]; rfl
      have h6 := of_decide_eq_true h_6
      have h16 := of_decide_eq_true h_16
      refine z_aload_n 0 dX8_weight_38 rfl rfl ?_
      refine z_getr fl_RX8_40 (by decide) rfl rfl dX8_weight_39 ?_
      refine z_bipush dX8_weight_42 (by decide) ?_
      refine z_iload_n 1 dX8_weight_44 rfl rfl ?_
      refine z_imul dX8_weight_45 ?_
      refine z_iload_n 2 dX8_weight_46 rfl rfl ?_
      refine z_iadd dX8_weight_47 ?_
      refine z_iald (8 * a.toNat + b.toNat) (by decide) rfl (by omega) (by omega) (by decide) dX8_weight_48 ?_
      exact z_iret rfl dX8_weight_49 (thM.t I ht (by rw [zu_ne (by decide)]; exact H.2.2.1 _ (by omega)))
theorem t8_likes (l : Launch) {g : zG} (hg : zAmOk g) {d : zD} {h : Hl} {ord : Nat → Nat} {tl : Nat} {tp : Nat → Nat} {fl : Int} (I : IM d h ord tl tp fl) {a b : Int} (ha : zin a) (hb : zin b) : zC l g mX8_likes 3 [zr g 37, zi a, zi b] d (thM d h ord tl tp fl (likG h a b) (likV h a b)) := by
  have w := I.1
  have w4 := w.2.2.2.1
  have H := I.2.1
  refine zC_of (L := [(0, _), (1, _), (2, _)]) mk_X8_likes (Nat.le_of_ble_eq_true rfl) hg rfl (fun x => ?_)
  refine z_aload_n 0 dX8_likes_0 rfl rfl ?_
  refine z_aload_n 0 dX8_likes_1 rfl rfl ?_
  refine z_iload_n 1 dX8_likes_2 rfl rfl ?_
  refine z_cv (t8_isVoter l hg w H ha) mk_X8_isVoter mi_X8_isVoter ml_RX8_305 (by omega) (by decide) rfl rfl rfl rfl (Nat.le_of_ble_eq_true rfl) dX8_likes_3 (zpure ?_)
  refine z_if_eq_b 24 dX8_likes_6 (by decide) (fun h_6 => ?_) (fun h_6 => ?_)
  · refine z_iconst dX8_likes_24 ?_
    refine z_puti fp_RX8_95 (by decide) rfl rfl dX8_likes_25 ?_
    refine z_aload_n 0 dX8_likes_28 rfl rfl ?_
    refine z_geti fl_RX8_95 (by decide) rfl rfl dX8_likes_29 ?_
    rw [zu_at]
    refine z_if_le 39 (by decide) dX8_likes_32 (by decide) (fun h_32 => absurd h_32 (by decide)) (fun h_32 => ?_)
    refine z_iconst dX8_likes_35 ?_
    refine z_goto 45 dX8_likes_36 (by decide) ?_
    have hf : likG h a b = false := by rw [likG, h_6, Bool.false_and]
    exact z_iret rfl dX8_likes_45 (thM.f I hf)
  · refine z_iload_n 2 dX8_likes_9 rfl rfl ?_
    refine z_iconst dX8_likes_10 ?_
    refine z_sipush dX8_likes_11 (by decide) ?_
    refine z_cs (t8_in l hg d (a := b) (b := 0) (c := 255) hb (by decide) (by decide)) mk_X8_in ms_X8_in ml_RX8_106 (by omega) rfl rfl (Nat.le_of_ble_eq_true rfl) dX8_likes_14 (zpure ?_)
    refine z_if_eq_b 24 dX8_likes_17 (by decide) (fun h_17 => ?_) (fun h_17 => ?_)
    · refine z_iconst dX8_likes_24 ?_
      refine z_puti fp_RX8_95 (by decide) rfl rfl dX8_likes_25 ?_
      refine z_aload_n 0 dX8_likes_28 rfl rfl ?_
      refine z_geti fl_RX8_95 (by decide) rfl rfl dX8_likes_29 ?_
      rw [zu_at]
      refine z_if_le 39 (by decide) dX8_likes_32 (by decide) (fun h_32 => absurd h_32 (by decide)) (fun h_32 => ?_)
      refine z_iconst dX8_likes_35 ?_
      refine z_goto 45 dX8_likes_36 (by decide) ?_
      have hf : likG h a b = false := by rw [likG, show fB b = false from decide_eq_false (by have := of_decide_eq_false h_17; omega), Bool.and_false]
      exact z_iret rfl dX8_likes_45 (thM.f I hf)
    · refine z_iconst dX8_likes_20 ?_
      refine z_goto 25 dX8_likes_21 (by decide) ?_
      refine z_puti fp_RX8_95 (by decide) rfl rfl dX8_likes_25 ?_
      refine z_aload_n 0 dX8_likes_28 rfl rfl ?_
      refine z_geti fl_RX8_95 (by decide) rfl rfl dX8_likes_29 ?_
      rw [zu_at]
      refine z_if_le 39 (by decide) dX8_likes_32 (by decide) (fun h_32 => ?_) (fun h_32 => absurd h_32 (by decide))
      have ht : likG h a b = true := by rw [likG, h_6, show fB b = true from decide_eq_true (by have := of_decide_eq_true h_17; omega)]; rfl
      have h6 := of_decide_eq_true h_6
      have h17 := of_decide_eq_true h_17
      refine z_aload_n 0 dX8_likes_39 rfl rfl ?_
      refine z_iload_n 1 dX8_likes_40 rfl rfl ?_
      refine z_iload_n 2 dX8_likes_41 rfl rfl ?_
      refine z_top2 ((a.toNat : Nat) : Int) (by omega) ?_
      refine z_top ((b.toNat : Nat) : Int) (by omega) ?_
      refine z_cv (t8_likesOf l hg w (I.ra 0).2.1 (v := a.toNat) (f := b.toNat) (by omega) (by omega)) mk_X8_likesOf mi_X8_likesOf ml_RX8_247 (by omega) (by decide) rfl rfl rfl rfl (Nat.le_of_ble_eq_true rfl) dX8_likes_42 (zpure ?_)
      exact z_iret rfl dX8_likes_45 (thM.t I ht rfl)
