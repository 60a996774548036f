/-! the class: a whole text, tell -/
theorem t_clear_11 (l : Launch) {g : zG} (hg : zAmOk g) (d : zD) : zC l g mX2_clear 2 [zr g 11] d (fun r d' => r = none ∧ (zF [11, 16] d d' ∧ HC 11 d' h0 ∧ ∀ i, i < 72 → d' 16 i = 0)) := by
  refine zC_of (L := [(0, _)]) mk_X2_clear (Nat.le_of_ble_eq_true rfl) hg rfl (fun x => ?_)
  refine z_aload_n 0 dX2_clear_0 rfl rfl ?_
  refine z_iconst dX2_clear_1 ?_
  refine z_puti fp_RX2_40 (by decide) rfl rfl dX2_clear_2 ?_
  refine z_aload_n 0 dX2_clear_5 rfl rfl ?_
  refine z_iconst dX2_clear_6 ?_
  refine z_puti fp_RX2_43 (by decide) rfl rfl dX2_clear_7 ?_
  refine z_aload_n 0 dX2_clear_10 rfl rfl ?_
  refine z_iconst dX2_clear_11 ?_
  refine z_puti fp_RX2_9 (by decide) rfl rfl dX2_clear_12 ?_
  refine z_aload_n 0 dX2_clear_15 rfl rfl ?_
  refine z_iconst dX2_clear_16 ?_
  refine z_puti fp_RX2_46 (by decide) rfl rfl dX2_clear_17 ?_
  refine z_aload_n 0 dX2_clear_20 rfl rfl ?_
  refine z_iconst dX2_clear_21 ?_
  refine z_puti fp_RX2_49 (by decide) rfl rfl dX2_clear_22 ?_
  refine z_aload_n 0 dX2_clear_25 rfl rfl ?_
  refine z_iconst dX2_clear_26 ?_
  refine z_puti fp_RX2_52 (by decide) rfl rfl dX2_clear_27 ?_
  refine z_aload_n 0 dX2_clear_30 rfl rfl ?_
  refine z_getr fl_RX2_28 (by decide) rfl rfl dX2_clear_31 ?_
  refine z_iconst dX2_clear_34 ?_
  generalize hd1 : zu (zu (zu (zu (zu (zu d 11 0 0) 11 1 0) 11 2 (-1)) 11 3 0) 11 4 0) 11 5 0 = d1
  have aF : zF [11] d d1 := by rw [← hd1]; exact (((((zF.rf.up (by decide)).up (by decide)).up (by decide)).up (by decide)).up (by decide)).up (by decide)
  have a0 : d1 11 0 = 0 := by rw [← hd1]; simp [zu]
  have a1 : d1 11 1 = 0 := by rw [← hd1]; simp [zu]
  have a2 : d1 11 2 = -1 := by rw [← hd1]; simp [zu]
  have a3 : d1 11 3 = 0 := by rw [← hd1]; simp [zu]
  have a4 : d1 11 4 = 0 := by rw [← hd1]; simp [zu]
  have a5 : d1 11 5 = 0 := by rw [← hd1]; simp [zu]
  refine z_cs (t_fill_16 l hg d1) mk_J7_fill_53178 ms_J7_fill_53178 ml_RX2_55 (by omega) rfl rfl (Nat.le_of_ble_eq_true rfl) dX2_clear_35 (zvoid fun d_35 q_35 => ?_)
  obtain ⟨f1, f2⟩ := q_35
  exact z_vret rfl dX2_clear_38 (⟨rfl, (zF.mono aF (by decide)).tr (zF.mono f1 (by decide)), ⟨by rw [f1 11 (by decide)]; exact ⟨a0, a1, a2, a3, a4, a5⟩, fun i hi => absurd hi (Nat.not_lt_zero i), fun i hi => absurd hi (by show ¬ i < 8 * 0; omega), fun i hi => absurd hi (Nat.not_lt_zero i)⟩, f2⟩)
/-- what readText answers -/
def rdQ (d : zD) (R : Nat ⊕ (Nat × Hl)) : Option Value → zD → Prop := fun r d' => DF d d' ∧ match R with
  | .inl f => r = some (zi (-1)) ∧ d' 20 4 = (f : Int)
  | .inr v => r = some (zi (v.1 : Int)) ∧ d' 20 4 = 0 ∧ HC 11 d' v.2 ∧ Wf v.2
theorem rdQ.f {d d' : zD} {R : Nat ⊕ (Nat × Hl)} {f : Nat} (e : R = .inl f) (h1 : DF d d') (h2 : d' 20 4 = (f : Int)) : rdQ d R (some (zi (-1))) d' := by subst e; exact ⟨h1, rfl, h2⟩
theorem rdQ.t {d d' : zD} {R : Nat ⊕ (Nat × Hl)} {v : Nat × Hl} (e : R = .inr v) (h1 : DF d d') (h2 : d' 20 4 = 0) (h3 : HC 11 d' v.2) (h4 : Wf v.2) : rdQ d R (some (zi (v.1 : Int))) d' := by subst e; exact ⟨h1, rfl, h2, h3, h4⟩
theorem lp_readText {l : Launch} {x : zX} {g : zG} {n : Nat} {d : zD} {tp : Nat → Nat} {tl : Nat} {adK adV : Nat → Nat} (hg : zAmOk g) (hs : zStr g adK adV) (hn : 11 < n) (htl : tl ≤ 400) : ∀ r k p h b d1, k ≤ tl + 1 → tl + 1 - k < r → TK d1 tp tl p → DF d d1 → d1 20 4 = 0 → HD d1 h b → spAll tp tl = spTx tp tl (tl + 1 - k) p k h b → zV l x g mX3_readText n (rdQ d (spAll tp tl)) 45 [(0, zr g 20), (1, zi (tl : Int)), (2, zi (k : Int))] [] d1 := by
  intro r
  induction r with
  | zero => intro k p h b d1 hk hr; omega
  | succ r ih =>
    intro k p h b d1 hk hr K F e4 H hsp
    obtain ⟨T, hp, k1, k2, k3, k4, k5⟩ := id K
    have hk4 := kd_le tp tl p
    refine z_iload_n 2 dX3_readText_45 rfl rfl ?_
    refine z_aload_n 0 dX3_readText_46 rfl rfl ?_
    refine z_geti fl_RX3_28 (by decide) rfl rfl dX3_readText_47 ?_
    rw [T.1]
    refine z_icmp_gt 77 (by omega) (by omega) dX3_readText_50 (by decide) (fun h_50 => ?_) (fun h_50 => ?_)
    · refine z_iconst dX3_readText_77 ?_
      exact z_iret rfl dX3_readText_78 (rdQ.f (by rw [hsp, show tl + 1 - k = 0 by omega, spTx]) F e4)
    · refine z_aload_n 0 dX3_readText_53 rfl rfl ?_
      refine z_geti fl_RX3_50 (by decide) rfl rfl dX3_readText_54 ?_
      rw [k1]
      refine z_if_ne 62 (by omega) dX3_readText_57 (by decide) (fun h_57 => ?_) (fun h_57 => ?_)
      · refine z_aload_n 0 dX3_readText_62 rfl rfl ?_
        refine z_cv (t_statement l hg hs K H) mk_X3_statement mi_X3_statement ml_RX3_53 (by omega) (by decide) rfl rfl rfl rfl (Nat.le_of_ble_eq_true rfl) dX3_readText_63 (z_pq (fun f_63 d_63 e_63 a_63 b_63 => ?_) (fun v_63 d_63 e_63 a_63 b_63 c_63 => ?_))
        · refine z_if_ne 71 (by decide) dX3_readText_66 (by decide) (fun h_66 => absurd h_66 (by decide)) (fun h_66 => ?_)
          refine z_iconst dX3_readText_69 ?_
          exact z_iret rfl dX3_readText_70 (rdQ.f (by rw [hsp, show tl + 1 - k = (tl - k) + 1 by omega, spTx, if_neg (by omega), e_63]) (F.tr a_63) b_63)
        · refine z_if_ne 71 (by decide) dX3_readText_66 (by decide) (fun h_66 => ?_) (fun h_66 => absurd h_66 (by decide))
          refine z_iinc 2 (L' := [(0, _), (1, _), (2, _)]) dX3_readText_71 (by decide) rfl rfl rfl ?_
          refine z_goto 45 dX3_readText_74 (by decide) ?_
          refine z_LL _ ?_ (ih (k + 1) v_63.1 v_63.2.1 v_63.2.2 d_63 (by omega) (by omega) c_63.1 (F.tr a_63) (by rw [b_63, e4]) c_63.2 ?_)
          · rw [show (k : Int) + 1 = ((k + 1 : Nat) : Int) by omega]
          · rw [hsp, show tl + 1 - k = (tl - k) + 1 by omega, spTx, if_neg (by omega), e_63, show tl + 1 - (k + 1) = tl - k by omega]
      · refine z_iload_n 2 dX3_readText_60 rfl rfl ?_
        exact z_iret rfl dX3_readText_61 (rdQ.t (v := (k, h)) (by rw [hsp, show tl + 1 - k = (tl - k) + 1 by omega, spTx, if_pos (by omega)]) F e4 H.1 H.2.2.1)
theorem t_readText (l : Launch) {g : zG} (hg : zAmOk g) {adK adV : Nat → Nat} (hs : zStr g adK adV) {d : zD} {tp : Nat → Nat} {tl : Nat} (htl : tl ≤ 400) (ht : ∀ i, i < tl → d 1 i = tp i ∧ tp i < 256) : zC l g mX3_readText 12 [zr g 20, zi (tl : Int)] d (rdQ d (spAll tp tl)) := by
  refine zC_of (L := [(0, _), (1, _)]) mk_X3_readText (Nat.le_of_ble_eq_true rfl) hg rfl (fun x => ?_)
  refine z_aload_n 0 dX3_readText_0 rfl rfl ?_
  refine z_iconst dX3_readText_1 ?_
  refine z_iload_n 1 dX3_readText_2 rfl rfl ?_
  refine z_aload_n 0 dX3_readText_3 rfl rfl ?_
  refine z_getr fl_RX3_9 (by decide) rfl rfl dX3_readText_4 ?_
  refine z_alen (by decide) rfl (by decide) dX3_readText_7 ?_
  refine z_mmin (by omega) (by decide) mmin_19 mmin_s math_i mmin_c (by omega) (Nat.le_of_ble_eq_true rfl) dX3_readText_8 ?_
  rw [show min (tl : Int) ((400 : Nat) : Int) = (tl : Int) by omega]
  refine z_mmax (by decide) (by omega) mmax_25 mmax_s math_i mmax_c (by omega) (Nat.le_of_ble_eq_true rfl) dX3_readText_11 ?_
  rw [show max 0 (tl : Int) = (tl : Int) by omega]
  refine z_puti fp_RX3_28 (by decide) rfl rfl dX3_readText_14 ?_
  refine z_aload_n 0 dX3_readText_17 rfl rfl ?_
  refine z_getr fl_RX3_15 (by decide) rfl rfl dX3_readText_18 ?_
  refine z_cv (t_clear_11 l hg (zu d 20 2 (tl : Int))) mk_X2_clear mi_X2_clear ml_RX3_32 (by omega) (by decide) rfl rfl rfl rfl (Nat.le_of_ble_eq_true rfl) dX3_readText_21 (zvoid fun d_21 q_21 => ?_)
  obtain ⟨f1, f2, f3⟩ := q_21
  refine z_aload_n 0 dX3_readText_24 rfl rfl ?_
  refine z_iconst dX3_readText_25 ?_
  refine z_putg fp_RX3_37 (by decide) rfl rfl (by decide +kernel) (by decide +kernel) dX3_readText_26 ?_
  refine z_aload_n 0 dX3_readText_29 rfl rfl ?_
  refine z_iconst dX3_readText_30 ?_
  refine z_puti fp_RX3_41 (by decide) rfl rfl dX3_readText_31 ?_
  refine z_aload_n 0 dX3_readText_34 rfl rfl ?_
  refine z_iconst dX3_readText_35 ?_
  refine z_puti fp_RX3_44 (by decide) rfl rfl dX3_readText_36 ?_
  generalize hd1 : zu (zu (zu d_21 20 3 0) 20 4 0) 20 7 0 = d1
  have aF : zF [20] d_21 d1 := by rw [← hd1]; exact ((zF.rf.up (by decide)).up (by decide)).up (by decide)
  have a2 : d1 20 2 = (tl : Int) := by rw [← hd1]; simp [zu]; rw [f1 20 (by decide), zu_at]
  have a3 : d1 20 3 = zb false := by rw [← hd1]; simp [zu]; rfl
  have a4 : d1 20 4 = 0 := by rw [← hd1]; simp [zu]
  have a7 : d1 20 7 = 0 := by rw [← hd1]; simp [zu]
  have hDF : DF d d1 := ((DF.rf.up (q := 20) (i := 2) (v := (tl : Int)) (by decide)).tr (DF.of f1 (by decide))).tr (DF.of aF (by decide))
  have T1 : TX d1 tp tl := ⟨a2, htl, fun i hi => by rw [hDF 1 (by decide)]; exact ht i hi⟩
  refine z_aload_n 0 dX3_readText_39 rfl rfl ?_
  refine z_cv (t_step l hg T1 (q := 0) a7 (Nat.zero_le _)) mk_X3_step mi_X3_step ml_RX3_47 (by omega) (by decide) rfl rfl rfl rfl (Nat.le_of_ble_eq_true rfl) dX3_readText_40 (zvoid fun d_40 q_40 => ?_)
  obtain ⟨g1, K1⟩ := q_40
  refine z_iconst dX3_readText_43 ?_
  refine z_istore_n (L' := [(0, _), (1, _), (2, _)]) dX3_readText_44 rfl (by decide) rfl rfl ?_
  have H1 : HD d1 h0 false := ⟨f2.of (fun p h1 h2 => aF p (by simp; omega)), a3, Wf_h0, fun i h1 h2 => by rw [aF 16 (by decide)]; exact f3 i h2⟩
  exact lp_readText hg hs (by omega) htl (tl + 2) 0 0 h0 false d_40 (by omega) (by omega) K1 (hDF.tr g1.RG.DF) (by rw [g1.2 4 (by decide) (by decide) (by decide) (by decide), a4]) (H1.of g1.1 (g1.2 3 (by decide) (by decide) (by decide) (by decide))) rfl
theorem t_copyFrom (l : Launch) {g : zG} (hg : zAmOk g) {d : zD} {h : Hl} (H : HC 11 d h) (w : Wf h) : zC l g mX2_copyFrom 3 [zr g 2, zr g 11] d (fun r d' => r = none ∧ (zF [2, 3, 4, 5, 6, 7, 8, 9, 10] d d' ∧ HC 2 d' h)) := by
  obtain ⟨⟨h0, h1, h2, h3, h4, h5⟩, q2, q3, q4⟩ := id H
  have w3 := w.2.2.1
  have w4 := w.2.2.2.1
  have w5 := w.2.2.2.2.1
  refine zC_of (L := [(0, _), (1, _)]) mk_X2_copyFrom (Nat.le_of_ble_eq_true rfl) hg rfl (fun x => ?_)
  refine z_aload_n 0 dX2_copyFrom_0 rfl rfl ?_
  refine z_aload_n 1 dX2_copyFrom_1 rfl rfl ?_
  refine z_geti fl_RX2_40 (by decide) rfl rfl dX2_copyFrom_2 ?_
  rw [h0]
  refine z_puti fp_RX2_40 (by decide) rfl rfl dX2_copyFrom_5 ?_
  refine z_aload_n 0 dX2_copyFrom_8 rfl rfl ?_
  refine z_aload_n 1 dX2_copyFrom_9 rfl rfl ?_
  refine z_geti fl_RX2_43 (by decide) rfl rfl dX2_copyFrom_10 ?_
  rw [zu_ne (by decide), h1]
  refine z_puti fp_RX2_43 (by decide) rfl rfl dX2_copyFrom_13 ?_
  refine z_aload_n 0 dX2_copyFrom_16 rfl rfl ?_
  refine z_aload_n 1 dX2_copyFrom_17 rfl rfl ?_
  refine z_geti fl_RX2_9 (by decide) rfl rfl dX2_copyFrom_18 ?_
  rw [zu_ne (by decide), zu_ne (by decide), h2]
  refine z_puti fp_RX2_9 (by decide) rfl rfl dX2_copyFrom_21 ?_
  refine z_aload_n 0 dX2_copyFrom_24 rfl rfl ?_
  refine z_aload_n 1 dX2_copyFrom_25 rfl rfl ?_
  refine z_geti fl_RX2_46 (by decide) rfl rfl dX2_copyFrom_26 ?_
  rw [zu_ne (by decide), zu_ne (by decide), zu_ne (by decide), h3]
  refine z_puti fp_RX2_46 (by decide) rfl rfl dX2_copyFrom_29 ?_
  refine z_aload_n 0 dX2_copyFrom_32 rfl rfl ?_
  refine z_aload_n 1 dX2_copyFrom_33 rfl rfl ?_
  refine z_geti fl_RX2_49 (by decide) rfl rfl dX2_copyFrom_34 ?_
  rw [zu_ne (by decide), zu_ne (by decide), zu_ne (by decide), zu_ne (by decide), h4]
  refine z_puti fp_RX2_49 (by decide) rfl rfl dX2_copyFrom_37 ?_
  refine z_aload_n 0 dX2_copyFrom_40 rfl rfl ?_
  refine z_aload_n 1 dX2_copyFrom_41 rfl rfl ?_
  refine z_geti fl_RX2_52 (by decide) rfl rfl dX2_copyFrom_42 ?_
  rw [zu_ne (by decide), zu_ne (by decide), zu_ne (by decide), zu_ne (by decide), zu_ne (by decide), h5]
  refine z_puti fp_RX2_52 (by decide) rfl rfl dX2_copyFrom_45 ?_
  generalize hd1 : zu (zu (zu (zu (zu (zu d 2 0 (hB h : Int)) 2 1 (hQ h : Int)) 2 2 (hS h)) 2 3 (hN h : Int)) 2 4 (hV h : Int)) 2 5 (hJ h : Int) = d1
  have aF : zF [2] d d1 := by rw [← hd1]; exact (((((zF.rf.up (by decide)).up (by decide)).up (by decide)).up (by decide)).up (by decide)).up (by decide)
  have hH : d1 2 0 = hB h ∧ d1 2 1 = hQ h ∧ d1 2 2 = hS h ∧ d1 2 3 = hN h ∧ d1 2 4 = hV h ∧ d1 2 5 = hJ h := by rw [← hd1]; simp [zu]
  refine z_aload_n 1 dX2_copyFrom_48 rfl rfl ?_
  refine z_getr fl_RX2_15 (by decide) rfl rfl dX2_copyFrom_49 ?_
  refine z_iconst dX2_copyFrom_52 ?_
  refine z_aload_n 0 dX2_copyFrom_53 rfl rfl ?_
  refine z_getr fl_RX2_15 (by decide) rfl rfl dX2_copyFrom_54 ?_
  refine z_iconst dX2_copyFrom_57 ?_
  refine z_bipush dX2_copyFrom_58 (by decide) ?_
  refine z_copyi (kk := 6) cpy_61 cpy_s sys_i cpy_n (by decide) (by decide) rfl rfl (by decide) (by decide) (by decide) (by omega) (Nat.le_of_ble_eq_true rfl) dX2_copyFrom_60 (fun e1 x1 y1 => ?_)
  refine z_aload_n 1 dX2_copyFrom_63 rfl rfl ?_
  refine z_getr fl_RX2_19 (by decide) rfl rfl dX2_copyFrom_64 ?_
  refine z_iconst dX2_copyFrom_67 ?_
  refine z_aload_n 0 dX2_copyFrom_68 rfl rfl ?_
  refine z_getr fl_RX2_19 (by decide) rfl rfl dX2_copyFrom_69 ?_
  refine z_iconst dX2_copyFrom_72 ?_
  refine z_bipush dX2_copyFrom_73 (by decide) ?_
  refine z_copyi (kk := 6) cpy_61 cpy_s sys_i cpy_n (by decide) (by decide) rfl rfl (by decide) (by decide) (by decide) (by omega) (Nat.le_of_ble_eq_true rfl) dX2_copyFrom_75 (fun e2 x2 y2 => ?_)
  refine z_aload_n 1 dX2_copyFrom_78 rfl rfl ?_
  refine z_getr fl_RX2_22 (by decide) rfl rfl dX2_copyFrom_79 ?_
  refine z_iconst dX2_copyFrom_82 ?_
  refine z_aload_n 0 dX2_copyFrom_83 rfl rfl ?_
  refine z_getr fl_RX2_22 (by decide) rfl rfl dX2_copyFrom_84 ?_
  refine z_iconst dX2_copyFrom_87 ?_
  refine z_bipush dX2_copyFrom_88 (by decide) ?_
  refine z_copyi (kk := 6) cpy_61 cpy_s sys_i cpy_n (by decide) (by decide) rfl rfl (by decide) (by decide) (by decide) (by omega) (Nat.le_of_ble_eq_true rfl) dX2_copyFrom_90 (fun e3 x3 y3 => ?_)
  refine z_aload_n 1 dX2_copyFrom_93 rfl rfl ?_
  refine z_getr fl_RX2_25 (by decide) rfl rfl dX2_copyFrom_94 ?_
  refine z_iconst dX2_copyFrom_97 ?_
  refine z_aload_n 0 dX2_copyFrom_98 rfl rfl ?_
  refine z_getr fl_RX2_25 (by decide) rfl rfl dX2_copyFrom_99 ?_
  refine z_iconst dX2_copyFrom_102 ?_
  refine z_bipush dX2_copyFrom_103 (by decide) ?_
  refine z_copyi (kk := 6) cpy_61 cpy_s sys_i cpy_n (by decide) (by decide) rfl rfl (by decide) (by decide) (by decide) (by omega) (Nat.le_of_ble_eq_true rfl) dX2_copyFrom_105 (fun e4 x4 y4 => ?_)
  refine z_aload_n 1 dX2_copyFrom_108 rfl rfl ?_
  refine z_getr fl_RX2_28 (by decide) rfl rfl dX2_copyFrom_109 ?_
  refine z_iconst dX2_copyFrom_112 ?_
  refine z_aload_n 0 dX2_copyFrom_113 rfl rfl ?_
  refine z_getr fl_RX2_28 (by decide) rfl rfl dX2_copyFrom_114 ?_
  refine z_iconst dX2_copyFrom_117 ?_
  refine z_bipush dX2_copyFrom_118 (by decide) ?_
  refine z_copyi (kk := 72) cpy_61 cpy_s sys_i cpy_n (by decide) (by decide) rfl rfl (by decide) (by decide) (by decide) (by omega) (Nat.le_of_ble_eq_true rfl) dX2_copyFrom_120 (fun e5 x5 y5 => ?_)
  refine z_aload_n 1 dX2_copyFrom_123 rfl rfl ?_
  refine z_getr fl_RX2_31 (by decide) rfl rfl dX2_copyFrom_124 ?_
  refine z_iconst dX2_copyFrom_127 ?_
  refine z_aload_n 0 dX2_copyFrom_128 rfl rfl ?_
  refine z_getr fl_RX2_31 (by decide) rfl rfl dX2_copyFrom_129 ?_
  refine z_iconst dX2_copyFrom_132 ?_
  refine z_bipush dX2_copyFrom_133 (by decide) ?_
  refine z_copyi (kk := 6) cpy_61 cpy_s sys_i cpy_n (by decide) (by decide) rfl rfl (by decide) (by decide) (by decide) (by omega) (Nat.le_of_ble_eq_true rfl) dX2_copyFrom_135 (fun e6 x6 y6 => ?_)
  refine z_aload_n 1 dX2_copyFrom_138 rfl rfl ?_
  refine z_getr fl_RX2_34 (by decide) rfl rfl dX2_copyFrom_139 ?_
  refine z_iconst dX2_copyFrom_142 ?_
  refine z_aload_n 0 dX2_copyFrom_143 rfl rfl ?_
  refine z_getr fl_RX2_34 (by decide) rfl rfl dX2_copyFrom_144 ?_
  refine z_iconst dX2_copyFrom_147 ?_
  refine z_bipush dX2_copyFrom_148 (by decide) ?_
  refine z_copyi (kk := 6) cpy_61 cpy_s sys_i cpy_n (by decide) (by decide) rfl rfl (by decide) (by decide) (by decide) (by omega) (Nat.le_of_ble_eq_true rfl) dX2_copyFrom_150 (fun e7 x7 y7 => ?_)
  refine z_aload_n 1 dX2_copyFrom_153 rfl rfl ?_
  refine z_getr fl_RX2_37 (by decide) rfl rfl dX2_copyFrom_154 ?_
  refine z_iconst dX2_copyFrom_157 ?_
  refine z_aload_n 0 dX2_copyFrom_158 rfl rfl ?_
  refine z_getr fl_RX2_37 (by decide) rfl rfl dX2_copyFrom_159 ?_
  refine z_iconst dX2_copyFrom_162 ?_
  refine z_bipush dX2_copyFrom_163 (by decide) ?_
  refine z_copyi (kk := 6) cpy_61 cpy_s sys_i cpy_n (by decide) (by decide) rfl rfl (by decide) (by decide) (by decide) (by omega) (Nat.le_of_ble_eq_true rfl) dX2_copyFrom_165 (fun e8 x8 y8 => ?_)
  have b3 : ∀ i, i < 6 → e8 3 i = d 12 i := fun i hi => by rw [x8 3 (by decide), x7 3 (by decide), x6 3 (by decide), x5 3 (by decide), x4 3 (by decide), x3 3 (by decide), x2 3 (by decide), y1 i hi, aF 12 (by decide)]
  have b4 : ∀ i, i < 6 → e8 4 i = d 13 i := fun i hi => by rw [x8 4 (by decide), x7 4 (by decide), x6 4 (by decide), x5 4 (by decide), x4 4 (by decide), x3 4 (by decide), y2 i hi, x1 13 (by decide), aF 13 (by decide)]
  have b5 : ∀ i, i < 6 → e8 5 i = d 14 i := fun i hi => by rw [x8 5 (by decide), x7 5 (by decide), x6 5 (by decide), x5 5 (by decide), x4 5 (by decide), y3 i hi, x2 14 (by decide), x1 14 (by decide), aF 14 (by decide)]
  have b6 : ∀ i, i < 6 → e8 6 i = d 15 i := fun i hi => by rw [x8 6 (by decide), x7 6 (by decide), x6 6 (by decide), x5 6 (by decide), y4 i hi, x3 15 (by decide), x2 15 (by decide), x1 15 (by decide), aF 15 (by decide)]
  have b7 : ∀ i, i < 72 → e8 7 i = d 16 i := fun i hi => by rw [x8 7 (by decide), x7 7 (by decide), x6 7 (by decide), y5 i hi, x4 16 (by decide), x3 16 (by decide), x2 16 (by decide), x1 16 (by decide), aF 16 (by decide)]
  have b8 : ∀ i, i < 6 → e8 8 i = d 17 i := fun i hi => by rw [x8 8 (by decide), x7 8 (by decide), y6 i hi, x5 17 (by decide), x4 17 (by decide), x3 17 (by decide), x2 17 (by decide), x1 17 (by decide), aF 17 (by decide)]
  have b9 : ∀ i, i < 6 → e8 9 i = d 18 i := fun i hi => by rw [x8 9 (by decide), y7 i hi, x6 18 (by decide), x5 18 (by decide), x4 18 (by decide), x3 18 (by decide), x2 18 (by decide), x1 18 (by decide), aF 18 (by decide)]
  have b10 : ∀ i, i < 6 → e8 10 i = d 19 i := fun i hi => by rw [y8 i hi, x7 19 (by decide), x6 19 (by decide), x5 19 (by decide), x4 19 (by decide), x3 19 (by decide), x2 19 (by decide), x1 19 (by decide), aF 19 (by decide)]
  have b2 : e8 2 = d1 2 := by rw [x8 2 (by decide), x7 2 (by decide), x6 2 (by decide), x5 2 (by decide), x4 2 (by decide), x3 2 (by decide), x2 2 (by decide), x1 2 (by decide)]
  have cF : zF [2, 3, 4, 5, 6, 7, 8, 9, 10] d e8 := ((((((((zF.mono aF (by decide)).tr (zF.mono x1 (by decide))).tr (zF.mono x2 (by decide))).tr (zF.mono x3 (by decide))).tr (zF.mono x4 (by decide))).tr (zF.mono x5 (by decide))).tr (zF.mono x6 (by decide))).tr (zF.mono x7 (by decide))).tr (zF.mono x8 (by decide))
  exact z_vret rfl dX2_copyFrom_168 (⟨rfl, cF, by rw [b2]; exact hH, fun i hi => by show e8 3 i = _ ∧ e8 4 i = _ ∧ e8 5 i = _ ∧ e8 6 i = _; rw [b3 i (by omega), b4 i (by omega), b5 i (by omega), b6 i (by omega)]; exact q2 i hi, fun i hi => by show e8 7 i = _; rw [b7 i (by omega)]; exact q3 i hi, fun i hi => by show e8 8 i = _ ∧ e8 9 i = _ ∧ e8 10 i = _; rw [b8 i (by omega), b9 i (by omega), b10 i (by omega)]; exact q4 i hi⟩)
