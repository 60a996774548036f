/-! the class's Reader: the statements -/
def okS (tp : Nat → Nat) (tl : Nat) (v : Nat × Hl × Bool) (d' : zD) : Prop := TK d' tp tl v.1 ∧ HD d' v.2.1 v.2.2
theorem t_addMotion (l : Launch) {g : zG} (hg : zAmOk g) {d : zD} {h : Hl} {b : Bool} (H : HC 11 d h) (w3 : hN h < 6) {so pl mi : Nat} {pa : Int} : zC l g mX2_addMotion 1 [zr g 11, zi (so : Int), zi pa, zi (pl : Int), zi (mi : Int)] d (fun r d' => r = none ∧ (zF [11, 12, 13, 14, 15] d d' ∧ HC 11 d' (addM h so pa pl mi))) := by
  obtain ⟨⟨h0, h1, h2, h3, h4, h5⟩, q2, q3, q4⟩ := id H
  refine zC_of (L := [(0, _), (1, _), (2, _), (3, _), (4, _)]) mk_X2_addMotion (Nat.le_of_ble_eq_true rfl) hg rfl (fun x => ?_)
  refine z_aload_n 0 dX2_addMotion_0 rfl rfl ?_
  refine z_geti fl_RX2_46 (by decide) rfl rfl dX2_addMotion_1 ?_
  refine z_bipush dX2_addMotion_4 (by decide) ?_
  rw [h3]
  refine z_icmp_ge 60 (by omega) (by omega) dX2_addMotion_6 (by decide) (fun h_6 => absurd h_6 (by omega)) (fun h_6 => ?_)
  refine z_aload_n 0 dX2_addMotion_9 rfl rfl ?_
  refine z_getr fl_RX2_15 (by decide) rfl rfl dX2_addMotion_10 ?_
  refine z_aload_n 0 dX2_addMotion_13 rfl rfl ?_
  refine z_geti fl_RX2_46 (by decide) rfl rfl dX2_addMotion_14 ?_
  refine z_iload_n 1 dX2_addMotion_17 rfl rfl ?_
  rw [h3]
  refine z_iast (hN h) (by decide) rfl rfl (by omega) (by decide) dX2_addMotion_18 ?_
  refine z_aload_n 0 dX2_addMotion_19 rfl rfl ?_
  refine z_getr fl_RX2_19 (by decide) rfl rfl dX2_addMotion_20 ?_
  refine z_aload_n 0 dX2_addMotion_23 rfl rfl ?_
  refine z_geti fl_RX2_46 (by decide) rfl rfl dX2_addMotion_24 ?_
  refine z_iload_n 2 dX2_addMotion_27 rfl rfl ?_
  rw [zu_ne (by decide), h3]
  refine z_iast (hN h) (by decide) rfl rfl (by omega) (by decide) dX2_addMotion_28 ?_
  refine z_aload_n 0 dX2_addMotion_29 rfl rfl ?_
  refine z_getr fl_RX2_22 (by decide) rfl rfl dX2_addMotion_30 ?_
  refine z_aload_n 0 dX2_addMotion_33 rfl rfl ?_
  refine z_geti fl_RX2_46 (by decide) rfl rfl dX2_addMotion_34 ?_
  refine z_iload_n 3 dX2_addMotion_37 rfl rfl ?_
  rw [zu_ne (by decide), zu_ne (by decide), h3]
  refine z_iast (hN h) (by decide) rfl rfl (by omega) (by decide) dX2_addMotion_38 ?_
  refine z_aload_n 0 dX2_addMotion_39 rfl rfl ?_
  refine z_getr fl_RX2_25 (by decide) rfl rfl dX2_addMotion_40 ?_
  refine z_aload_n 0 dX2_addMotion_43 rfl rfl ?_
  refine z_geti fl_RX2_46 (by decide) rfl rfl dX2_addMotion_44 ?_
  refine z_iload 4 dX2_addMotion_47 rfl ?_
  rw [zu_ne (by decide), zu_ne (by decide), zu_ne (by decide), h3]
  refine z_iast (hN h) (by decide) rfl rfl (by omega) (by decide) dX2_addMotion_49 ?_
  refine z_aload_n 0 dX2_addMotion_50 rfl rfl ?_
  refine z_dup dX2_addMotion_51 rfl ?_
  refine z_geti fl_RX2_46 (by decide) rfl rfl dX2_addMotion_52 ?_
  rw [zu_ne (by decide), zu_ne (by decide), zu_ne (by decide), zu_ne (by decide), h3]
  refine z_iconst dX2_addMotion_55 ?_
  refine z_iadd dX2_addMotion_56 ?_
  refine z_puti fp_RX2_46 (by decide) rfl rfl dX2_addMotion_57 ?_
  generalize hd1 : zu (zu (zu (zu (zu d 12 (hN h) (so : Int)) 13 (hN h) pa) 14 (hN h) (pl : Int)) 15 (hN h) (mi : Int)) 11 3 ((hN h : Int) + 1) = d1
  have a12 : ∀ i, d1 12 i = if i = hN h then (so : Int) else d 12 i := fun i => by rw [← hd1]; simp [zu]
  have a13 : ∀ i, d1 13 i = if i = hN h then pa else d 13 i := fun i => by rw [← hd1]; simp [zu]
  have a14 : ∀ i, d1 14 i = if i = hN h then (pl : Int) else d 14 i := fun i => by rw [← hd1]; simp [zu]
  have a15 : ∀ i, d1 15 i = if i = hN h then (mi : Int) else d 15 i := fun i => by rw [← hd1]; simp [zu]
  have a11 : ∀ i, d1 11 i = if i = 3 then (hN h : Int) + 1 else d 11 i := fun i => by rw [← hd1]; simp [zu]
  have aF : zF [11, 12, 13, 14, 15] d d1 := by rw [← hd1]; exact ((((zF.rf.up (by decide)).up (by decide)).up (by decide)).up (by decide)).up (by decide)
  refine z_vret rfl dX2_addMotion_60 (⟨rfl, aF, ⟨by rw [a11]; exact h0, by rw [a11]; exact h1, by rw [a11]; exact h2, by rw [a11]; rfl, by rw [a11]; exact h4, by rw [a11]; exact h5⟩, fun i hi => ?_, fun i hi => by rw [aF 16 (by decide)]; exact q3 i hi, fun i hi => by rw [aF 17 (by decide), aF 18 (by decide), aF 19 (by decide)]; exact q4 i hi⟩)
  have hi' : i < hN h + 1 := hi
  show d1 12 i = ((if i = hN h then so else hso h i : Nat) : Int) ∧ d1 13 i = (if i = hN h then pa else hpa h i) ∧ d1 14 i = ((if i = hN h then pl else hpl h i : Nat) : Int) ∧ d1 15 i = ((if i = hN h then mi else hmi h i : Nat) : Int)
  rw [a12, a13, a14, a15]
  by_cases e : i = hN h
  · rw [if_pos e, if_pos e, if_pos e, if_pos e, if_pos e, if_pos e, if_pos e, if_pos e]; exact ⟨rfl, rfl, rfl, rfl⟩
  · rw [if_neg e, if_neg e, if_neg e, if_neg e, if_neg e, if_neg e, if_neg e, if_neg e]; exact q2 i (by omega)
theorem t_addJoint (l : Launch) {g : zG} (hg : zAmOk g) {d : zD} {h : Hl} (H : HC 11 d h) (w3 : hJ h < 6) {v s : Nat} {y : Int} : zC l g mX2_addJoint 1 [zr g 11, zi (v : Int), zi (s : Int), zi y] d (fun r d' => r = none ∧ (zF [11, 17, 18, 19] d d' ∧ HC 11 d' (addJ h v s y))) := by
  obtain ⟨⟨h0, h1, h2, h3, h4, h5⟩, q2, q3, q4⟩ := id H
  refine zC_of (L := [(0, _), (1, _), (2, _), (3, _)]) mk_X2_addJoint (Nat.le_of_ble_eq_true rfl) hg rfl (fun x => ?_)
  refine z_aload_n 0 dX2_addJoint_0 rfl rfl ?_
  refine z_geti fl_RX2_52 (by decide) rfl rfl dX2_addJoint_1 ?_
  refine z_bipush dX2_addJoint_4 (by decide) ?_
  rw [h5]
  refine z_icmp_ge 49 (by omega) (by omega) dX2_addJoint_6 (by decide) (fun h_6 => absurd h_6 (by omega)) (fun h_6 => ?_)
  refine z_aload_n 0 dX2_addJoint_9 rfl rfl ?_
  refine z_getr fl_RX2_31 (by decide) rfl rfl dX2_addJoint_10 ?_
  refine z_aload_n 0 dX2_addJoint_13 rfl rfl ?_
  refine z_geti fl_RX2_52 (by decide) rfl rfl dX2_addJoint_14 ?_
  refine z_iload_n 1 dX2_addJoint_17 rfl rfl ?_
  rw [h5]
  refine z_iast (hJ h) (by decide) rfl rfl (by omega) (by decide) dX2_addJoint_18 ?_
  refine z_aload_n 0 dX2_addJoint_19 rfl rfl ?_
  refine z_getr fl_RX2_34 (by decide) rfl rfl dX2_addJoint_20 ?_
  refine z_aload_n 0 dX2_addJoint_23 rfl rfl ?_
  refine z_geti fl_RX2_52 (by decide) rfl rfl dX2_addJoint_24 ?_
  refine z_iload_n 2 dX2_addJoint_27 rfl rfl ?_
  rw [zu_ne (by decide), h5]
  refine z_iast (hJ h) (by decide) rfl rfl (by omega) (by decide) dX2_addJoint_28 ?_
  refine z_aload_n 0 dX2_addJoint_29 rfl rfl ?_
  refine z_getr fl_RX2_37 (by decide) rfl rfl dX2_addJoint_30 ?_
  refine z_aload_n 0 dX2_addJoint_33 rfl rfl ?_
  refine z_geti fl_RX2_52 (by decide) rfl rfl dX2_addJoint_34 ?_
  refine z_iload_n 3 dX2_addJoint_37 rfl rfl ?_
  rw [zu_ne (by decide), zu_ne (by decide), h5]
  refine z_iast (hJ h) (by decide) rfl rfl (by omega) (by decide) dX2_addJoint_38 ?_
  refine z_aload_n 0 dX2_addJoint_39 rfl rfl ?_
  refine z_dup dX2_addJoint_40 rfl ?_
  refine z_geti fl_RX2_52 (by decide) rfl rfl dX2_addJoint_41 ?_
  rw [zu_ne (by decide), zu_ne (by decide), zu_ne (by decide), h5]
  refine z_iconst dX2_addJoint_44 ?_
  refine z_iadd dX2_addJoint_45 ?_
  refine z_puti fp_RX2_52 (by decide) rfl rfl dX2_addJoint_46 ?_
  generalize hd1 : zu (zu (zu (zu d 17 (hJ h) (v : Int)) 18 (hJ h) (s : Int)) 19 (hJ h) y) 11 5 ((hJ h : Int) + 1) = d1
  have a17 : ∀ i, d1 17 i = if i = hJ h then (v : Int) else d 17 i := fun i => by rw [← hd1]; simp [zu]
  have a18 : ∀ i, d1 18 i = if i = hJ h then (s : Int) else d 18 i := fun i => by rw [← hd1]; simp [zu]
  have a19 : ∀ i, d1 19 i = if i = hJ h then y else d 19 i := fun i => by rw [← hd1]; simp [zu]
  have a11 : ∀ i, d1 11 i = if i = 5 then (hJ h : Int) + 1 else d 11 i := fun i => by rw [← hd1]; simp [zu]
  have aF : zF [11, 17, 18, 19] d d1 := by rw [← hd1]; exact (((zF.rf.up (by decide)).up (by decide)).up (by decide)).up (by decide)
  refine z_vret rfl dX2_addJoint_49 (⟨rfl, aF, ⟨by rw [a11]; exact h0, by rw [a11]; exact h1, by rw [a11]; exact h2, by rw [a11]; exact h3, by rw [a11]; exact h4, by rw [a11]; rfl⟩, fun i hi => by rw [aF 12 (by decide), aF 13 (by decide), aF 14 (by decide), aF 15 (by decide)]; exact q2 i hi, fun i hi => by rw [aF 16 (by decide)]; exact q3 i hi, fun i hi => ?_⟩)
  have hi' : i < hJ h + 1 := hi
  show d1 17 i = ((if i = hJ h then v else hjv h i : Nat) : Int) ∧ d1 18 i = ((if i = hJ h then s else hjs h i : Nat) : Int) ∧ d1 19 i = (if i = hJ h then y else hjw h i)
  rw [a17, a18, a19]
  by_cases e : i = hJ h
  · rw [if_pos e, if_pos e, if_pos e, if_pos e, if_pos e, if_pos e]; exact ⟨rfl, rfl, rfl⟩
  · rw [if_neg e, if_neg e, if_neg e, if_neg e, if_neg e, if_neg e]; exact q4 i (by omega)
theorem t_bill (l : Launch) {g : zG} (hg : zAmOk g) {d : zD} {tp : Nat → Nat} {tl p : Nat} {h : Hl} {b : Bool} (K : TK d tp tl p) (H : HD d h b) : zC l g mX3_bill 4 [zr g 20] d (PQ d (spBill tp tl h b p) (okS tp tl)) := by
  obtain ⟨T, hp, k1, k2, k3, k4, k5⟩ := id K
  have he := en_le (tp := tp) hp
  refine zC_of (L := [(0, _)]) mk_X3_bill (Nat.le_of_ble_eq_true rfl) hg rfl (fun x => ?_)
  refine z_aload_n 0 dX3_bill_0 rfl rfl ?_
  refine z_geti fl_RX3_37 (by decide) rfl rfl dX3_bill_1 ?_
  rw [H.2.1]
  refine z_if_eq_b 13 dX3_bill_4 (by decide) (fun h_4 => ?_) (fun h_4 => ?_)
  · refine z_aload_n 0 dX3_bill_13 rfl rfl ?_
    refine z_cv (t_step l hg T (q := en tp tl p) k3 he.2) mk_X3_step mi_X3_step ml_RX3_47 (by omega) (by decide) rfl rfl rfl rfl (Nat.le_of_ble_eq_true rfl) dX3_bill_14 (zvoid fun d_14 q_14 => ?_)
    obtain ⟨g1, g2⟩ := q_14
    have H1 : HD d_14 h b := H.of g1.1 (g1.2 3 (by decide) (by decide) (by decide) (by decide))
    refine z_aload_n 0 dX3_bill_17 rfl rfl ?_
    refine z_iconst dX3_bill_18 ?_
    refine z_cv (t_clauseSet l hg g2 (least := 1) (by decide)) mk_X3_clauseSet mi_X3_clauseSet ml_RX3_98 (by omega) (by decide) rfl rfl rfl rfl (Nat.le_of_ble_eq_true rfl) dX3_bill_19 (z_pq (fun f_19 d_19 e_19 a_19 b_19 => ?_) (fun v_19 d_19 e_19 a_19 b_19 c_19 => ?_))
    · refine z_if_ne 27 (by decide) dX3_bill_22 (by decide) (fun h_22 => absurd h_22 (by decide)) (fun h_22 => ?_)
      refine z_iconst dX3_bill_25 ?_
      exact z_bret (b := false) rfl dX3_bill_26 (PQ.f (by rw [spBill, if_neg (by rw [h_4]; decide), e_19]) (g1.RG.DF.tr a_19) b_19)
    · refine z_if_ne 27 (by decide) dX3_bill_22 (by decide) (fun h_22 => ?_) (fun h_22 => absurd h_22 (by decide))
      refine z_aload_n 0 dX3_bill_27 rfl rfl ?_
      refine z_iconst dX3_bill_28 ?_
      refine z_putg fp_RX3_37 (by decide) rfl rfl (by decide +kernel) (by decide +kernel) dX3_bill_29 ?_
      refine z_aload_n 0 dX3_bill_32 rfl rfl ?_
      refine z_getr fl_RX3_15 (by decide) rfl rfl dX3_bill_33 ?_
      obtain ⟨c1, c2, c3⟩ := c_19
      refine z_aload_n 0 dX3_bill_36 rfl rfl ?_
      refine z_geti fl_RX3_101 (by decide) rfl rfl dX3_bill_37 ?_
      rw [show zu d_19 20 3 1 20 9 = (v_19.2 : Int) by simp [zu, c3]]
      refine z_puti fp_RX3_104 (by decide) rfl rfl dX3_bill_40 ?_
      refine z_iconst dX3_bill_43 ?_
      have hs := spSet_ok (s := v_19.2) (q := v_19.1) he.2 e_19
      have H2 : HD d_19 h b := H1.of c1.1 (c1.2 3 (by decide))
      have aF : zF [11, 20] d_19 (zu (zu d_19 20 3 1) 11 0 (v_19.2 : Int)) := (zF.rf.up (by decide)).up (by decide)
      obtain ⟨⟨⟨h0, h1, h2, h3, h4, h5⟩, q2, q3, q4⟩, r1, r2, r3⟩ := H2
      exact z_bret (b := true) rfl dX3_bill_44 (PQ.t (v := (v_19.1, setB h v_19.2, true)) (by rw [spBill, if_neg (by rw [h_4]; decide), e_19]) ((g1.RG.DF.tr a_19).tr (DF.of aF (by decide))) (by rw [zu_ne (by decide), zu_row, if_neg (by decide), b_19, g1.2 4 (by decide) (by decide) (by decide) (by decide)]) ⟨c2.of (by rw [zu_ne (by decide), zu_ne (by decide)]) (fun i hi => by rw [zu_ne (by decide), zu_row, if_neg (by omega)]), ⟨⟨by simp [zu]; rfl, by simp [zu]; exact h1, by simp [zu]; exact h2, by simp [zu]; exact h3, by simp [zu]; exact h4, by simp [zu]; exact h5⟩, fun i hi => by rw [aF 12 (by decide), aF 13 (by decide), aF 14 (by decide), aF 15 (by decide)]; exact q2 i hi, fun i hi => by rw [aF 16 (by decide)]; exact q3 i hi, fun i hi => by rw [aF 17 (by decide), aF 18 (by decide), aF 19 (by decide)]; exact q4 i hi⟩, by simp [zu]; rfl, Wf_setB r2 hs.2.2, fun i h1 h2 => by rw [aF 16 (by decide)]; exact r3 i h1 h2⟩)
  · refine z_aload_n 0 dX3_bill_7 rfl rfl ?_
    refine z_iconst dX3_bill_8 ?_
    refine z_cv (t_refuse l hg (k := 3) (s := sk tp tl p) k2) mk_X3_refuse mi_X3_refuse ml_RX3_87 (by omega) (by decide) rfl rfl rfl rfl (Nat.le_of_ble_eq_true rfl) dX3_bill_9 (fun r_9 d_9 q_9 => ?_)
    obtain ⟨rfl, rfl⟩ := q_9
    show zV l x g mX3_bill 4 _ _ _ [_] _
    exact z_bret rfl dX3_bill_12 (PQ.f (by rw [spBill, if_pos h_4]) (DF.rf.up (by decide)) (zu_at _ _ _ _))
theorem t_canBeAmended (l : Launch) {g : zG} (hg : zAmOk g) {d : zD} {h : Hl} (w : Wf h) (H : HC 11 d h) {v : Nat} (hv : v < 2147483648) : zC l g mX3_canBeAmended 2 [zr g 20, zi (v : Int)] d (zpu (zi (zb (decide (v < hN h ∧ (hso h v = 0 ∨ hso h v = 2))))) d) := by
  obtain ⟨⟨h0, h1, h2, h3, h4, h5⟩, q2, q3, q4⟩ := id H
  have w3 := w.2.2.1
  refine zC_of (L := [(0, _), (1, _)]) mk_X3_canBeAmended (Nat.le_of_ble_eq_true rfl) hg rfl (fun x => ?_)
  refine z_aload_n 0 dX3_canBeAmended_0 rfl rfl ?_
  refine z_getr fl_RX3_15 (by decide) rfl rfl dX3_canBeAmended_1 ?_
  refine z_iload_n 1 dX3_canBeAmended_4 rfl rfl ?_
  refine z_cv (t_hasMotion_11 l hg d (a := (v : Int)) (by omega) (by omega)) mk_X2_hasMotion mi_X2_hasMotion ml_RX3_130 (by omega) (by decide) rfl rfl rfl rfl (Nat.le_of_ble_eq_true rfl) dX3_canBeAmended_5 (zpure ?_)
  refine z_if_eq_b 40 dX3_canBeAmended_8 (by decide) (fun h_8 => ?_) (fun h_8 => ?_)
  · rw [h3, decide_eq_false_iff_not] at h_8
    refine z_iconst dX3_canBeAmended_40 ?_
    exact z_bret (b := false) rfl dX3_canBeAmended_41 (zret_b (decide_eq_false (by omega)).symm)
  · rw [h3, decide_eq_true_eq] at h_8
    obtain ⟨e1, e2, e3, e4⟩ : d 12 v = hso h v ∧ d 13 v = hpa h v ∧ d 14 v = hpl h v ∧ d 15 v = hmi h v := q2 v (by omega)
    have ws := (w.2.2.2.2.2.2.1 v (by omega)).1
    refine z_aload_n 0 dX3_canBeAmended_11 rfl rfl ?_
    refine z_getr fl_RX3_15 (by decide) rfl rfl dX3_canBeAmended_12 ?_
    refine z_getr fl_RX3_133 (by decide) rfl rfl dX3_canBeAmended_15 ?_
    refine z_iload_n 1 dX3_canBeAmended_18 rfl rfl ?_
    refine z_iald _ (by decide) rfl rfl (by omega) (by decide) dX3_canBeAmended_19 ?_
    rw [e1]
    refine z_if_eq 36 (by omega) dX3_canBeAmended_20 (by decide) (fun h_20 => ?_) (fun h_20 => ?_)
    · refine z_iconst dX3_canBeAmended_36 ?_
      refine z_goto 41 dX3_canBeAmended_37 (by decide) ?_
      exact z_bret (b := true) rfl dX3_canBeAmended_41 (zret_b (decide_eq_true (by omega)).symm)
    · refine z_aload_n 0 dX3_canBeAmended_23 rfl rfl ?_
      refine z_getr fl_RX3_15 (by decide) rfl rfl dX3_canBeAmended_24 ?_
      refine z_getr fl_RX3_133 (by decide) rfl rfl dX3_canBeAmended_27 ?_
      refine z_iload_n 1 dX3_canBeAmended_30 rfl rfl ?_
      refine z_iald _ (by decide) rfl rfl (by omega) (by decide) dX3_canBeAmended_31 ?_
      refine z_iconst dX3_canBeAmended_32 ?_
      rw [e1]
      refine z_icmp_ne 40 (by omega) (by omega) dX3_canBeAmended_33 (by decide) (fun h_33 => ?_) (fun h_33 => ?_)
      · refine z_iconst dX3_canBeAmended_40 ?_
        exact z_bret (b := false) rfl dX3_canBeAmended_41 (zret_b (decide_eq_false (by omega)).symm)
      · refine z_iconst dX3_canBeAmended_36 ?_
        refine z_goto 41 dX3_canBeAmended_37 (by decide) ?_
        exact z_bret (b := true) rfl dX3_canBeAmended_41 (zret_b (decide_eq_true (by omega)).symm)
theorem t_target (l : Launch) {g : zG} (hg : zAmOk g) {adK adV : Nat → Nat} (hs : zStr g adK adV) {d : zD} {tp : Nat → Nat} {tl p : Nat} {h : Hl} {b : Bool} (K : TK d tp tl p) (H : HD d h b) : zC l g mX3_target 9 [zr g 20] d (PQ d (spOf tp tl h p) (fun v d' => RG [5, 6, 7, 8, 11, 12] d d' ∧ TK d' tp tl v.1 ∧ d' 20 11 = (v.2.1 : Int) ∧ d' 20 12 = v.2.2)) := by
  obtain ⟨T, hp, k1, k2, k3, k4, k5⟩ := id K
  have he := en_le (tp := tp) hp
  have hk4 := kd_le tp tl p
  have w := H.2.2.1
  have w6 := w.2.2.2.2.2.1
  have w3 := w.2.2.1
  obtain ⟨⟨h0, h1, h2, h3, h4, h5⟩, q2, q3, q4⟩ := id H.1
  refine zC_of (L := [(0, _)]) mk_X3_target (Nat.le_of_ble_eq_true rfl) hg rfl (fun x => ?_)
  refine z_aload_n 0 dX3_target_0 rfl rfl ?_
  refine z_ldcs hs (i := 0) (by decide) rfl rfl dX3_target_1 ?_
  refine z_cv (t_isWord l hg hs K (i := 0) (by decide)) mk_X3_isWord mi_X3_isWord ml_RX3_59 (by omega) (by decide) rfl rfl rfl rfl (Nat.le_of_ble_eq_true rfl) dX3_target_3 (zpure ?_)
  refine z_if_eq_b 22 dX3_target_6 (by decide) (fun h_6 => ?_) (fun h_6 => ?_)
  · refine z_aload_n 0 dX3_target_22 rfl rfl ?_
    refine z_ldcs hs (i := 2) (by decide) rfl rfl dX3_target_23 ?_
    refine z_cv (t_isWord l hg hs K (i := 2) (by decide)) mk_X3_isWord mi_X3_isWord ml_RX3_59 (by omega) (by decide) rfl rfl rfl rfl (Nat.le_of_ble_eq_true rfl) dX3_target_25 (zpure ?_)
    refine z_if_eq_b 67 dX3_target_28 (by decide) (fun h_28 => ?_) (fun h_28 => ?_)
    · refine z_aload_n 0 dX3_target_67 rfl rfl ?_
      refine z_geti fl_RX3_50 (by decide) rfl rfl dX3_target_68 ?_
      refine z_iconst dX3_target_71 ?_
      rw [k1]
      refine z_icmp_ne 108 (by omega) (by omega) dX3_target_72 (by decide) (fun h_72 => ?_) (fun h_72 => ?_)
      · refine z_aload_n 0 dX3_target_108 rfl rfl ?_
        refine z_iconst dX3_target_109 ?_
        refine z_cv (t_refuse l hg (k := 1) (s := sk tp tl p) k2) mk_X3_refuse mi_X3_refuse ml_RX3_87 (by omega) (by decide) rfl rfl rfl rfl (Nat.le_of_ble_eq_true rfl) dX3_target_110 (fun r_110 d_110 q_110 => ?_)
        obtain ⟨rfl, rfl⟩ := q_110
        show zV l x g mX3_target 9 _ _ _ [_] _
        exact z_bret rfl dX3_target_113 (PQ.f (by rw [spOf, if_neg (by rw [h_6]; decide), if_neg (by rw [h_28]; decide), if_neg (by omega)]) (DF.rf.up (by decide)) (zu_at _ _ _ _))
      · have hk2 : kd tp tl p = 2 := by omega
        have hv3 := nvN_le (tp := tp) (tl := tl) (p := p) hk2 T
        refine z_aload_n 0 dX3_target_75 rfl rfl ?_
        refine z_aload_n 0 dX3_target_76 rfl rfl ?_
        refine z_geti fl_RX3_124 (by decide) rfl rfl dX3_target_77 ?_
        rw [k4 hk2]
        refine z_cv (t_canBeAmended l hg w H.1 (v := nv tp tl p) (by omega)) mk_X3_canBeAmended mi_X3_canBeAmended ml_RX3_127 (by omega) (by decide) rfl rfl rfl rfl (Nat.le_of_ble_eq_true rfl) dX3_target_80 (zpure ?_)
        refine z_if_ne_b 92 dX3_target_83 (by decide) (fun h_83 => ?_) (fun h_83 => ?_)
        · refine z_aload_n 0 dX3_target_92 rfl rfl ?_
          refine z_iconst dX3_target_93 ?_
          refine z_puti fp_RX3_112 (by decide) rfl rfl dX3_target_94 ?_
          refine z_aload_n 0 dX3_target_97 rfl rfl ?_
          refine z_aload_n 0 dX3_target_98 rfl rfl ?_
          refine z_geti fl_RX3_124 (by decide) rfl rfl dX3_target_99 ?_
          rw [show zu d 20 11 3 20 8 = (nv tp tl p : Int) by simp [zu, k4 hk2]]
          refine z_puti fp_RX3_115 (by decide) rfl rfl dX3_target_102 ?_
          refine z_goto 114 dX3_target_105 (by decide) ?_
          refine z_aload_n 0 dX3_target_114 rfl rfl ?_
          have hsp : spOf tp tl h p = .inr (en tp tl p, 3, (nv tp tl p : Int)) := by rw [spOf, if_neg (by rw [h_6]; decide), if_neg (by rw [h_28]; decide), if_pos hk2, if_pos (of_decide_eq_true h_83)]
          generalize hd1 : zu (zu d 20 11 3) 20 12 (nv tp tl p : Int) = d1
          have hR : RG [5, 6, 7, 8, 11, 12] d d1 := by rw [← hd1]; exact (RG.rf.up (i := 11) (by decide)).up (i := 12) (by decide)
          have r11 : d1 20 11 = ((3 : Nat) : Int) := by rw [← hd1]; simp [zu]
          have r12 : d1 20 12 = (nv tp tl p : Int) := by rw [← hd1]; simp [zu]
          refine z_cv (t_step l hg (hR.TX (by decide) T) (q := en tp tl p) (by rw [← hd1]; simp [zu, k3]) he.2) mk_X3_step mi_X3_step ml_RX3_47 (by omega) (by decide) rfl rfl rfl rfl (Nat.le_of_ble_eq_true rfl) dX3_target_115 (zvoid fun d_115 q_115 => ?_)
          refine z_iconst dX3_target_118 ?_
          exact z_bret (b := true) rfl dX3_target_119 (PQ.t hsp (hR.DF.tr q_115.1.RG.DF) (by rw [q_115.1.2 4 (by decide) (by decide) (by decide) (by decide), hR.2 4 (by decide)]) ⟨hR.tr (q_115.1.RG.mono (by decide)), q_115.2, by rw [q_115.1.2 11 (by decide) (by decide) (by decide) (by decide)]; exact r11, by rw [q_115.1.2 12 (by decide) (by decide) (by decide) (by decide)]; exact r12⟩)
        · refine z_aload_n 0 dX3_target_86 rfl rfl ?_
          refine z_iconst dX3_target_87 ?_
          refine z_cv (t_refuse l hg (k := 2) (s := sk tp tl p) k2) mk_X3_refuse mi_X3_refuse ml_RX3_87 (by omega) (by decide) rfl rfl rfl rfl (Nat.le_of_ble_eq_true rfl) dX3_target_88 (fun r_88 d_88 q_88 => ?_)
          obtain ⟨rfl, rfl⟩ := q_88
          show zV l x g mX3_target 9 _ _ _ [_] _
          exact z_bret rfl dX3_target_91 (PQ.f (by rw [spOf, if_neg (by rw [h_6]; decide), if_neg (by rw [h_28]; decide), if_pos hk2, if_neg (of_decide_eq_false h_83)]) (DF.rf.up (by decide)) (zu_at _ _ _ _))
    · refine z_aload_n 0 dX3_target_31 rfl rfl ?_
      refine z_getr fl_RX3_15 (by decide) rfl rfl dX3_target_32 ?_
      refine z_geti fl_RX3_122 (by decide) rfl rfl dX3_target_35 ?_
      refine z_iconst dX3_target_38 ?_
      rw [h2]
      refine z_icmp_ne 48 (by omega) (by omega) dX3_target_39 (by decide) (fun h_39 => ?_) (fun h_39 => ?_)
      · refine z_aload_n 0 dX3_target_48 rfl rfl ?_
        refine z_iconst dX3_target_49 ?_
        refine z_puti fp_RX3_112 (by decide) rfl rfl dX3_target_50 ?_
        refine z_aload_n 0 dX3_target_53 rfl rfl ?_
        refine z_aload_n 0 dX3_target_54 rfl rfl ?_
        refine z_getr fl_RX3_15 (by decide) rfl rfl dX3_target_55 ?_
        refine z_geti fl_RX3_122 (by decide) rfl rfl dX3_target_58 ?_
        rw [show zu d 20 11 2 11 2 = hS h by rw [zu_ne (by decide)]; exact h2]
        refine z_puti fp_RX3_115 (by decide) rfl rfl dX3_target_61 ?_
        refine z_goto 114 dX3_target_64 (by decide) ?_
        refine z_aload_n 0 dX3_target_114 rfl rfl ?_
        have hsp : spOf tp tl h p = .inr (en tp tl p, 2, hS h) := by rw [spOf, if_neg (by rw [h_6]; decide), if_pos h_28, if_neg h_39]
        generalize hd1 : zu (zu d 20 11 2) 20 12 (hS h) = d1
        have hR : RG [5, 6, 7, 8, 11, 12] d d1 := by rw [← hd1]; exact (RG.rf.up (i := 11) (by decide)).up (i := 12) (by decide)
        have r11 : d1 20 11 = ((2 : Nat) : Int) := by rw [← hd1]; simp [zu]
        have r12 : d1 20 12 = hS h := by rw [← hd1]; simp [zu]
        refine z_cv (t_step l hg (hR.TX (by decide) T) (q := en tp tl p) (by rw [← hd1]; simp [zu, k3]) he.2) mk_X3_step mi_X3_step ml_RX3_47 (by omega) (by decide) rfl rfl rfl rfl (Nat.le_of_ble_eq_true rfl) dX3_target_115 (zvoid fun d_115 q_115 => ?_)
        refine z_iconst dX3_target_118 ?_
        exact z_bret (b := true) rfl dX3_target_119 (PQ.t hsp (hR.DF.tr q_115.1.RG.DF) (by rw [q_115.1.2 4 (by decide) (by decide) (by decide) (by decide), hR.2 4 (by decide)]) ⟨hR.tr (q_115.1.RG.mono (by decide)), q_115.2, by rw [q_115.1.2 11 (by decide) (by decide) (by decide) (by decide)]; exact r11, by rw [q_115.1.2 12 (by decide) (by decide) (by decide) (by decide)]; exact r12⟩)
      · refine z_aload_n 0 dX3_target_42 rfl rfl ?_
        refine z_iconst dX3_target_43 ?_
        refine z_cv (t_refuse l hg (k := 3) (s := sk tp tl p) k2) mk_X3_refuse mi_X3_refuse ml_RX3_87 (by omega) (by decide) rfl rfl rfl rfl (Nat.le_of_ble_eq_true rfl) dX3_target_44 (fun r_44 d_44 q_44 => ?_)
        obtain ⟨rfl, rfl⟩ := q_44
        show zV l x g mX3_target 9 _ _ _ [_] _
        exact z_bret rfl dX3_target_47 (PQ.f (by rw [spOf, if_neg (by rw [h_6]; decide), if_pos h_28, if_pos h_39]) (DF.rf.up (by decide)) (zu_at _ _ _ _))
  · refine z_aload_n 0 dX3_target_9 rfl rfl ?_
    refine z_iconst dX3_target_10 ?_
    refine z_puti fp_RX3_112 (by decide) rfl rfl dX3_target_11 ?_
    refine z_aload_n 0 dX3_target_14 rfl rfl ?_
    refine z_iconst dX3_target_15 ?_
    refine z_puti fp_RX3_115 (by decide) rfl rfl dX3_target_16 ?_
    refine z_goto 114 dX3_target_19 (by decide) ?_
    refine z_aload_n 0 dX3_target_114 rfl rfl ?_
    have hsp : spOf tp tl h p = .inr (en tp tl p, 0, -1) := by rw [spOf, if_pos h_6]
    generalize hd1 : zu (zu d 20 11 0) 20 12 (-1) = d1
    have hR : RG [5, 6, 7, 8, 11, 12] d d1 := by rw [← hd1]; exact (RG.rf.up (i := 11) (by decide)).up (i := 12) (by decide)
    have r11 : d1 20 11 = ((0 : Nat) : Int) := by rw [← hd1]; simp [zu]
    have r12 : d1 20 12 = -1 := by rw [← hd1]; simp [zu]
    refine z_cv (t_step l hg (hR.TX (by decide) T) (q := en tp tl p) (by rw [← hd1]; simp [zu, k3]) he.2) mk_X3_step mi_X3_step ml_RX3_47 (by omega) (by decide) rfl rfl rfl rfl (Nat.le_of_ble_eq_true rfl) dX3_target_115 (zvoid fun d_115 q_115 => ?_)
    refine z_iconst dX3_target_118 ?_
    exact z_bret (b := true) rfl dX3_target_119 (PQ.t hsp (hR.DF.tr q_115.1.RG.DF) (by rw [q_115.1.2 4 (by decide) (by decide) (by decide) (by decide), hR.2 4 (by decide)]) ⟨hR.tr (q_115.1.RG.mono (by decide)), q_115.2, by rw [q_115.1.2 11 (by decide) (by decide) (by decide) (by decide)]; exact r11, by rw [q_115.1.2 12 (by decide) (by decide) (by decide) (by decide)]; exact r12⟩)
