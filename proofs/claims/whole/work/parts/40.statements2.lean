/-! the class's Reader: the other statements -/
theorem HD.setQ {d : zD} {h : Hl} {b : Bool} (H : HD d h b) {v : Nat} (hv : v ≤ 9) : HD (zu d 11 1 (v : Int)) (setQ h v) b := by
  have aF : zF [11] d (zu d 11 1 (v : Int)) := zF.rf.up (by decide)
  obtain ⟨⟨⟨h0, h1, h2, h3, h4, h5⟩, q2, q3, q4⟩, r1, r2, r3⟩ := H
  exact ⟨⟨⟨by simp [zu]; exact h0, by simp [zu]; rfl, by simp [zu]; exact h2, by simp [zu]; exact h3, by simp [zu]; exact h4, by simp [zu]; exact h5⟩, fun i hi => by rw [aF 12 (by decide), aF 13 (by decide), aF 14 (by decide), aF 15 (by decide)]; exact q2 i hi, fun i hi => by rw [aF 16 (by decide)]; exact q3 i hi, fun i hi => by rw [aF 17 (by decide), aF 18 (by decide), aF 19 (by decide)]; exact q4 i hi⟩, by rw [aF 20 (by decide)]; exact r1, Wf_setQ r2 hv, fun i h1 h2 => by rw [aF 16 (by decide)]; exact r3 i h1 h2⟩
theorem HC.setS {d : zD} {h : Hl} (H : HC 11 d h) {v : Nat} : HC 11 (zu d 11 2 (v : Int)) (setS h v) := by
  have aF : zF [11] d (zu d 11 2 (v : Int)) := zF.rf.up (by decide)
  obtain ⟨⟨h0, h1, h2, h3, h4, h5⟩, q2, q3, q4⟩ := H
  exact ⟨⟨by simp [zu]; exact h0, by simp [zu]; exact h1, by simp [zu]; rfl, by simp [zu]; exact h3, by simp [zu]; exact h4, by simp [zu]; exact h5⟩, fun i hi => by rw [aF 12 (by decide), aF 13 (by decide), aF 14 (by decide), aF 15 (by decide)]; exact q2 i hi, fun i hi => by rw [aF 16 (by decide)]; exact q3 i hi, fun i hi => by rw [aF 17 (by decide), aF 18 (by decide), aF 19 (by decide)]; exact q4 i hi⟩
theorem t_quota (l : Launch) {g : zG} (hg : zAmOk g) {d : zD} {tp : Nat → Nat} {tl p : Nat} {h : Hl} {b : Bool} (K : TK d tp tl p) (H : HD d h b) : zC l g mX3_quota 3 [zr g 20] d (PQ d (spQuo tp tl h b p) (okS tp tl)) := by
  obtain ⟨T, hp, k1, k2, k3, k4, k5⟩ := id K
  have he := en_le (tp := tp) hp
  have w2 := H.2.2.1.2.1
  have hk4 := kd_le tp tl (en tp tl p)
  obtain ⟨⟨h0, h1, h2, h3, h4, h5⟩, q2, q3, q4⟩ := id H.1
  refine zC_of (L := [(0, _)]) mk_X3_quota (Nat.le_of_ble_eq_true rfl) hg rfl (fun x => ?_)
  refine z_aload_n 0 dX3_quota_0 rfl rfl ?_
  refine z_getr fl_RX3_15 (by decide) rfl rfl dX3_quota_1 ?_
  refine z_geti fl_RX3_168 (by decide) rfl rfl dX3_quota_4 ?_
  rw [h1]
  refine z_if_eq 16 (by omega) dX3_quota_7 (by decide) (fun h_7 => ?_) (fun h_7 => ?_)
  · refine z_aload_n 0 dX3_quota_16 rfl rfl ?_
    refine z_cv (t_step l hg T (q := en tp tl p) k3 he.2) mk_X3_step mi_X3_step ml_RX3_47 (by omega) (by decide) rfl rfl rfl rfl (Nat.le_of_ble_eq_true rfl) dX3_quota_17 (zvoid fun d_17 q_17 => ?_)
    obtain ⟨g1, K1⟩ := q_17
    have H1 : HD d_17 h b := H.of g1.1 (g1.2 3 (by decide) (by decide) (by decide) (by decide))
    obtain ⟨T1, hp1, a1, a2, a3, a4, a5⟩ := id K1
    have he1 := en_le (tp := tp) hp1
    refine z_aload_n 0 dX3_quota_20 rfl rfl ?_
    refine z_geti fl_RX3_50 (by decide) rfl rfl dX3_quota_21 ?_
    refine z_iconst dX3_quota_24 ?_
    rw [a1]
    refine z_icmp_eq 34 (by omega) (by omega) dX3_quota_25 (by decide) (fun h_25 => ?_) (fun h_25 => ?_)
    · have hk2 : kd tp tl (en tp tl p) = 2 := by omega
      have hv3 := nvN_le (tp := tp) (tl := tl) (p := en tp tl p) hk2 T1
      refine z_aload_n 0 dX3_quota_34 rfl rfl ?_
      refine z_geti fl_RX3_124 (by decide) rfl rfl dX3_quota_35 ?_
      refine z_iconst dX3_quota_38 ?_
      rw [a4 hk2]
      refine z_icmp_lt 51 (by omega) (by omega) dX3_quota_39 (by decide) (fun h_39 => ?_) (fun h_39 => ?_)
      · refine z_aload_n 0 dX3_quota_51 rfl rfl ?_
        refine z_iconst dX3_quota_52 ?_
        refine z_cv (t_refuse l hg (k := 2) (s := sk tp tl (en tp tl p)) a2) mk_X3_refuse mi_X3_refuse ml_RX3_87 (by omega) (by decide) rfl rfl rfl rfl (Nat.le_of_ble_eq_true rfl) dX3_quota_53 (fun r_53 d_53 q_53 => ?_)
        obtain ⟨rfl, rfl⟩ := q_53
        show zV l x g mX3_quota 3 _ _ _ [_] _
        exact z_bret rfl dX3_quota_56 (PQ.f (by rw [spQuo, if_neg (by omega), if_neg (by omega), if_pos (by omega)]) (g1.RG.DF.up (by decide)) (zu_at _ _ _ _))
      · refine z_aload_n 0 dX3_quota_42 rfl rfl ?_
        refine z_geti fl_RX3_124 (by decide) rfl rfl dX3_quota_43 ?_
        refine z_bipush dX3_quota_46 (by decide) ?_
        rw [a4 hk2]
        refine z_icmp_le 57 (by omega) (by omega) dX3_quota_48 (by decide) (fun h_48 => ?_) (fun h_48 => ?_)
        · refine z_aload_n 0 dX3_quota_57 rfl rfl ?_
          refine z_getr fl_RX3_15 (by decide) rfl rfl dX3_quota_58 ?_
          refine z_aload_n 0 dX3_quota_61 rfl rfl ?_
          refine z_geti fl_RX3_124 (by decide) rfl rfl dX3_quota_62 ?_
          rw [a4 hk2]
          refine z_puti fp_RX3_168 (by decide) rfl rfl dX3_quota_65 ?_
          refine z_aload_n 0 dX3_quota_68 rfl rfl ?_
          refine z_cv (t_step l hg (T1.of (d' := zu d_17 11 1 (nv tp tl (en tp tl p) : Int)) (by simp [zu]) (zu_ne (by decide))) (q := en tp tl (en tp tl p)) (by simp [zu, a3]) he1.2) mk_X3_step mi_X3_step ml_RX3_47 (by omega) (by decide) rfl rfl rfl rfl (Nat.le_of_ble_eq_true rfl) dX3_quota_69 (zvoid fun d_69 q_69 => ?_)
          refine z_iconst dX3_quota_72 ?_
          exact z_bret (b := true) rfl dX3_quota_73 (PQ.t (v := (en tp tl (en tp tl p), setQ h (nv tp tl (en tp tl p)), b)) (by rw [spQuo, if_neg (by omega), if_neg (by omega), if_neg (by omega)]) ((g1.RG.DF.up (by decide)).tr q_69.1.RG.DF) (by rw [q_69.1.2 4 (by decide) (by decide) (by decide) (by decide), zu_ne (by decide), g1.2 4 (by decide) (by decide) (by decide) (by decide)]) ⟨q_69.2, (H1.setQ (v := nv tp tl (en tp tl p)) (by omega)).of q_69.1.1 (q_69.1.2 3 (by decide) (by decide) (by decide) (by decide))⟩)
        · refine z_aload_n 0 dX3_quota_51 rfl rfl ?_
          refine z_iconst dX3_quota_52 ?_
          refine z_cv (t_refuse l hg (k := 2) (s := sk tp tl (en tp tl p)) a2) mk_X3_refuse mi_X3_refuse ml_RX3_87 (by omega) (by decide) rfl rfl rfl rfl (Nat.le_of_ble_eq_true rfl) dX3_quota_53 (fun r_53 d_53 q_53 => ?_)
          obtain ⟨rfl, rfl⟩ := q_53
          show zV l x g mX3_quota 3 _ _ _ [_] _
          exact z_bret rfl dX3_quota_56 (PQ.f (by rw [spQuo, if_neg (by omega), if_neg (by omega), if_pos (by omega)]) (g1.RG.DF.up (by decide)) (zu_at _ _ _ _))
    · refine z_aload_n 0 dX3_quota_28 rfl rfl ?_
      refine z_iconst dX3_quota_29 ?_
      refine z_cv (t_refuse l hg (k := 1) (s := sk tp tl (en tp tl p)) a2) mk_X3_refuse mi_X3_refuse ml_RX3_87 (by omega) (by decide) rfl rfl rfl rfl (Nat.le_of_ble_eq_true rfl) dX3_quota_30 (fun r_30 d_30 q_30 => ?_)
      obtain ⟨rfl, rfl⟩ := q_30
      show zV l x g mX3_quota 3 _ _ _ [_] _
      exact z_bret rfl dX3_quota_33 (PQ.f (by rw [spQuo, if_neg (by omega), if_pos (by omega)]) (g1.RG.DF.up (by decide)) (zu_at _ _ _ _))
  · refine z_aload_n 0 dX3_quota_10 rfl rfl ?_
    refine z_iconst dX3_quota_11 ?_
    refine z_cv (t_refuse l hg (k := 3) (s := sk tp tl p) k2) mk_X3_refuse mi_X3_refuse ml_RX3_87 (by omega) (by decide) rfl rfl rfl rfl (Nat.le_of_ble_eq_true rfl) dX3_quota_12 (fun r_12 d_12 q_12 => ?_)
    obtain ⟨rfl, rfl⟩ := q_12
    show zV l x g mX3_quota 3 _ _ _ [_] _
    exact z_bret rfl dX3_quota_15 (PQ.f (by rw [spQuo, if_pos (by omega)]) (DF.rf.up (by decide)) (zu_at _ _ _ _))
theorem t_substitute (l : Launch) {g : zG} (hg : zAmOk g) {d : zD} {tp : Nat → Nat} {tl p : Nat} {h : Hl} {b : Bool} (K : TK d tp tl p) (H : HD d h b) : zC l g mX3_substitute 4 [zr g 20] d (PQ d (spSub tp tl h b p) (okS tp tl)) := by
  obtain ⟨T, hp, k1, k2, k3, k4, k5⟩ := id K
  have he := en_le (tp := tp) hp
  have w3 := H.2.2.1.2.2.1
  have w6 := H.2.2.1.2.2.2.2.2.1
  obtain ⟨⟨h0, h1, h2, h3, h4, h5⟩, q2, q3, q4⟩ := id H.1
  refine zC_of (L := [(0, _)]) mk_X3_substitute (Nat.le_of_ble_eq_true rfl) hg rfl (fun x => ?_)
  refine z_aload_n 0 dX3_substitute_0 rfl rfl ?_
  refine z_getr fl_RX3_15 (by decide) rfl rfl dX3_substitute_1 ?_
  refine z_geti fl_RX3_122 (by decide) rfl rfl dX3_substitute_4 ?_
  refine z_iconst dX3_substitute_7 ?_
  rw [h2]
  refine z_icmp_eq 17 (by omega) (by omega) dX3_substitute_8 (by decide) (fun h_8 => ?_) (fun h_8 => ?_)
  · refine z_aload_n 0 dX3_substitute_17 rfl rfl ?_
    refine z_getr fl_RX3_15 (by decide) rfl rfl dX3_substitute_18 ?_
    refine z_geti fl_RX3_106 (by decide) rfl rfl dX3_substitute_21 ?_
    refine z_bipush dX3_substitute_24 (by decide) ?_
    rw [h3]
    refine z_icmp_lt 35 (by omega) (by omega) dX3_substitute_26 (by decide) (fun h_26 => ?_) (fun h_26 => ?_)
    · refine z_aload_n 0 dX3_substitute_35 rfl rfl ?_
      refine z_cv (t_step l hg T (q := en tp tl p) k3 he.2) mk_X3_step mi_X3_step ml_RX3_47 (by omega) (by decide) rfl rfl rfl rfl (Nat.le_of_ble_eq_true rfl) dX3_substitute_36 (zvoid fun d_36 q_36 => ?_)
      obtain ⟨g1, g2⟩ := q_36
      have H1 : HD d_36 h b := H.of g1.1 (g1.2 3 (by decide) (by decide) (by decide) (by decide))
      refine z_aload_n 0 dX3_substitute_39 rfl rfl ?_
      refine z_iconst dX3_substitute_40 ?_
      refine z_cv (t_clauseSet l hg g2 (least := 1) (by decide)) mk_X3_clauseSet mi_X3_clauseSet ml_RX3_98 (by omega) (by decide) rfl rfl rfl rfl (Nat.le_of_ble_eq_true rfl) dX3_substitute_41 (z_pq (fun f_41 d_41 e_41 a_41 b_41 => ?_) (fun v_41 d_41 e_41 a_41 b_41 c_41 => ?_))
      · refine z_if_ne 49 (by decide) dX3_substitute_44 (by decide) (fun h_44 => absurd h_44 (by decide)) (fun h_44 => ?_)
        refine z_iconst dX3_substitute_47 ?_
        exact z_bret (b := false) rfl dX3_substitute_48 (PQ.f (by rw [spSub, if_neg (by omega), if_neg (by omega), e_41]) (g1.RG.DF.tr a_41) b_41)
      · refine z_if_ne 49 (by decide) dX3_substitute_44 (by decide) (fun h_44 => ?_) (fun h_44 => absurd h_44 (by decide))
        refine z_aload_n 0 dX3_substitute_49 rfl rfl ?_
        refine z_getr fl_RX3_15 (by decide) rfl rfl dX3_substitute_50 ?_
        refine z_aload_n 0 dX3_substitute_53 rfl rfl ?_
        refine z_getr fl_RX3_15 (by decide) rfl rfl dX3_substitute_54 ?_
        refine z_geti fl_RX3_106 (by decide) rfl rfl dX3_substitute_57 ?_
        obtain ⟨c1, c2, c3⟩ := c_41
        have H2 : HD d_41 h b := H1.of c1.1 (c1.2 3 (by decide))
        rw [H2.1.1.2.2.2.1]
        refine z_puti fp_RX3_122 (by decide) rfl rfl dX3_substitute_60 ?_
        refine z_aload_n 0 dX3_substitute_63 rfl rfl ?_
        refine z_getr fl_RX3_15 (by decide) rfl rfl dX3_substitute_64 ?_
        refine z_iconst dX3_substitute_67 ?_
        refine z_iconst dX3_substitute_68 ?_
        refine z_aload_n 0 dX3_substitute_69 rfl rfl ?_
        refine z_geti fl_RX3_101 (by decide) rfl rfl dX3_substitute_70 ?_
        refine z_iconst dX3_substitute_73 ?_
        have hs := spSet_ok (s := v_41.2) (q := v_41.1) he.2 e_41
        have aF : zF [11] d_41 (zu d_41 11 2 (hN h : Int)) := zF.rf.up (by decide)
        rw [show zu d_41 11 2 (hN h : Int) 20 9 = (v_41.2 : Int) by rw [aF 20 (by decide)]; exact c3]
        refine z_cv (t_addMotion l hg (H2.1.setS (v := hN h)) (show hN h < 6 by omega) (b := b) (so := 1) (pa := -1) (pl := v_41.2) (mi := 0)) mk_X2_addMotion mi_X2_addMotion ml_RX3_118 (by omega) (by decide) rfl rfl rfl rfl (Nat.le_of_ble_eq_true rfl) dX3_substitute_74 (zvoid fun d_74 q_74 => ?_)
        obtain ⟨s1, s2⟩ := q_74
        refine z_iconst dX3_substitute_77 ?_
        exact z_bret (b := true) rfl dX3_substitute_78 (PQ.t (v := (v_41.1, addM (setS h (hN h)) 1 (-1) v_41.2 0, b)) (by rw [spSub, if_neg (by omega), if_neg (by omega), e_41]) (((g1.RG.DF.tr a_41).tr (DF.of aF (by decide))).tr (DF.of s1 (by decide))) (by rw [s1 20 (by decide), aF 20 (by decide), b_41, g1.2 4 (by decide) (by decide) (by decide) (by decide)]) ⟨c2.of (by rw [s1 1 (by decide), aF 1 (by decide)]) (fun i hi => by rw [s1 20 (by decide), aF 20 (by decide)]), s2, by rw [s1 20 (by decide), aF 20 (by decide)]; exact H2.2.1, Wf_sub H2.2.2.1 (by omega) (by omega) hs.2.2, fun i h1 h2 => by rw [s1 16 (by decide), aF 16 (by decide)]; exact H2.2.2.2 i h1 h2⟩)
    · refine z_aload_n 0 dX3_substitute_29 rfl rfl ?_
      refine z_iconst dX3_substitute_30 ?_
      refine z_cv (t_refuse l hg (k := 4) (s := sk tp tl p) k2) mk_X3_refuse mi_X3_refuse ml_RX3_87 (by omega) (by decide) rfl rfl rfl rfl (Nat.le_of_ble_eq_true rfl) dX3_substitute_31 (fun r_31 d_31 q_31 => ?_)
      obtain ⟨rfl, rfl⟩ := q_31
      show zV l x g mX3_substitute 4 _ _ _ [_] _
      exact z_bret rfl dX3_substitute_34 (PQ.f (by rw [spSub, if_neg (by omega), if_pos (by omega)]) (DF.rf.up (by decide)) (zu_at _ _ _ _))
  · refine z_aload_n 0 dX3_substitute_11 rfl rfl ?_
    refine z_iconst dX3_substitute_12 ?_
    refine z_cv (t_refuse l hg (k := 3) (s := sk tp tl p) k2) mk_X3_refuse mi_X3_refuse ml_RX3_87 (by omega) (by decide) rfl rfl rfl rfl (Nat.le_of_ble_eq_true rfl) dX3_substitute_13 (fun r_13 d_13 q_13 => ?_)
    obtain ⟨rfl, rfl⟩ := q_13
    show zV l x g mX3_substitute 4 _ _ _ [_] _
    exact z_bret rfl dX3_substitute_16 (PQ.f (by rw [spSub, if_pos (by omega)]) (DF.rf.up (by decide)) (zu_at _ _ _ _))
theorem t_joint (l : Launch) {g : zG} (hg : zAmOk g) {d : zD} {tp : Nat → Nat} {tl p : Nat} {h : Hl} {b : Bool} (K : TK d tp tl p) (H : HD d h b) : zC l g mX3_joint 4 [zr g 20] d (PQ d (spJoi tp tl h b p) (okS tp tl)) := by
  obtain ⟨T, hp, k1, k2, k3, k4, k5⟩ := id K
  have he := en_le (tp := tp) hp
  have w4 := H.2.2.1.2.2.2.1
  have w5 := H.2.2.1.2.2.2.2.1
  have hk4 := kd_le tp tl (en tp tl p)
  obtain ⟨⟨h0, h1, h2, h3, h4, h5⟩, q2, q3, q4⟩ := id H.1
  refine zC_of (L := [(0, _)]) mk_X3_joint (Nat.le_of_ble_eq_true rfl) hg rfl (fun x => ?_)
  refine z_aload_n 0 dX3_joint_0 rfl rfl ?_
  refine z_getr fl_RX3_15 (by decide) rfl rfl dX3_joint_1 ?_
  refine z_geti fl_RX3_158 (by decide) rfl rfl dX3_joint_4 ?_
  refine z_bipush dX3_joint_7 (by decide) ?_
  rw [h5]
  refine z_icmp_lt 18 (by omega) (by omega) dX3_joint_9 (by decide) (fun h_9 => ?_) (fun h_9 => ?_)
  · refine z_aload_n 0 dX3_joint_18 rfl rfl ?_
    refine z_cv (t_step l hg T (q := en tp tl p) k3 he.2) mk_X3_step mi_X3_step ml_RX3_47 (by omega) (by decide) rfl rfl rfl rfl (Nat.le_of_ble_eq_true rfl) dX3_joint_19 (zvoid fun d_19 q_19 => ?_)
    obtain ⟨g1, K1⟩ := q_19
    have H1 : HD d_19 h b := H.of g1.1 (g1.2 3 (by decide) (by decide) (by decide) (by decide))
    obtain ⟨T1, hp1, a1, a2, a3, a4, a5⟩ := id K1
    have he1 := en_le (tp := tp) hp1
    refine z_aload_n 0 dX3_joint_22 rfl rfl ?_
    refine z_geti fl_RX3_50 (by decide) rfl rfl dX3_joint_23 ?_
    refine z_iconst dX3_joint_26 ?_
    rw [a1]
    refine z_icmp_eq 36 (by omega) (by omega) dX3_joint_27 (by decide) (fun h_27 => ?_) (fun h_27 => ?_)
    · have hk2 : kd tp tl (en tp tl p) = 2 := by omega
      have hv3 := nvN_le (tp := tp) (tl := tl) (p := en tp tl p) hk2 T1
      refine z_aload_n 0 dX3_joint_36 rfl rfl ?_
      refine z_geti fl_RX3_124 (by decide) rfl rfl dX3_joint_37 ?_
      rw [a4 hk2]
      refine z_istore_n (L' := [(0, _), (1, _)]) dX3_joint_40 rfl (by decide) rfl rfl ?_
      refine z_aload_n 0 dX3_joint_41 rfl rfl ?_
      refine z_getr fl_RX3_15 (by decide) rfl rfl dX3_joint_42 ?_
      refine z_iload_n 1 dX3_joint_45 rfl rfl ?_
      refine z_cv (t_hasVoter_11 l hg d_19 (a := (nv tp tl (en tp tl p) : Int)) (by omega) (by rw [H1.1.1.2.2.2.2.1]; omega)) mk_X2_hasVoter mi_X2_hasVoter ml_RX3_161 (by omega) (by decide) rfl rfl rfl rfl (Nat.le_of_ble_eq_true rfl) dX3_joint_46 (zpure ?_)
      refine z_if_ne_b 58 dX3_joint_49 (by decide) (fun h_49 => ?_) (fun h_49 => ?_)
      · rw [H1.1.1.2.2.2.2.1, decide_eq_true_eq] at h_49
        refine z_aload_n 0 dX3_joint_58 rfl rfl ?_
        refine z_cv (t_step l hg T1 (q := en tp tl (en tp tl p)) a3 he1.2) mk_X3_step mi_X3_step ml_RX3_47 (by omega) (by decide) rfl rfl rfl rfl (Nat.le_of_ble_eq_true rfl) dX3_joint_59 (zvoid fun d_59 q_59 => ?_)
        obtain ⟨g3, K2⟩ := q_59
        have H2 : HD d_59 h b := H1.of g3.1 (g3.2 3 (by decide) (by decide) (by decide) (by decide))
        refine z_aload_n 0 dX3_joint_62 rfl rfl ?_
        refine z_iconst dX3_joint_63 ?_
        refine z_cv (t_clauseSet l hg K2 (least := 2) (by decide)) mk_X3_clauseSet mi_X3_clauseSet ml_RX3_98 (by omega) (by decide) rfl rfl rfl rfl (Nat.le_of_ble_eq_true rfl) dX3_joint_64 (z_pq (fun f_64 d_64 e_64 a_64 b_64 => ?_) (fun v_64 d_64 e_64 a_64 b_64 c_64 => ?_))
        · refine z_if_eq 77 (by decide) dX3_joint_67 (by decide) (fun h_67 => ?_) (fun h_67 => absurd h_67 (by decide))
          refine z_iconst dX3_joint_77 ?_
          exact z_bret (b := false) rfl dX3_joint_78 (PQ.f (by rw [spJoi, if_neg (by omega), if_neg (by omega), if_neg (by omega), e_64]) ((g1.RG.DF.tr g3.RG.DF).tr a_64) b_64)
        · obtain ⟨c1, c2, c3⟩ := c_64
          refine z_if_eq 77 (by decide) dX3_joint_67 (by decide) (fun h_67 => absurd h_67 (by decide)) (fun h_67 => ?_)
          refine z_aload_n 0 dX3_joint_70 rfl rfl ?_
          refine z_cv (t_signedWeight l hg c2) mk_X3_signedWeight mi_X3_signedWeight ml_RX3_149 (by omega) (by decide) rfl rfl rfl rfl (Nat.le_of_ble_eq_true rfl) dX3_joint_71 (z_pq (fun f_71 d_71 e_71 a_71 b_71 => ?_) (fun v_71 d_71 e_71 a_71 b_71 c_71 => ?_))
          · refine z_if_ne 79 (by decide) dX3_joint_74 (by decide) (fun h_74 => absurd h_74 (by decide)) (fun h_74 => ?_)
            refine z_iconst dX3_joint_77 ?_
            exact z_bret (b := false) rfl dX3_joint_78 (PQ.f (by rw [spJoi, if_neg (by omega), if_neg (by omega), if_neg (by omega), e_64]; dsimp only; rw [e_71]) (((g1.RG.DF.tr g3.RG.DF).tr a_64).tr a_71) b_71)
          · refine z_if_ne 79 (by decide) dX3_joint_74 (by decide) (fun h_74 => ?_) (fun h_74 => absurd h_74 (by decide))
            refine z_aload_n 0 dX3_joint_79 rfl rfl ?_
            refine z_getr fl_RX3_15 (by decide) rfl rfl dX3_joint_80 ?_
            refine z_iload_n 1 dX3_joint_83 rfl rfl ?_
            refine z_aload_n 0 dX3_joint_84 rfl rfl ?_
            refine z_geti fl_RX3_101 (by decide) rfl rfl dX3_joint_85 ?_
            refine z_aload_n 0 dX3_joint_88 rfl rfl ?_
            refine z_geti fl_RX3_155 (by decide) rfl rfl dX3_joint_89 ?_
            obtain ⟨s1, s2, s3⟩ := c_71
            have hs := spSet_ok (s := v_64.2) (q := v_64.1) he1.2 e_64
            have hy := spWei_ok (q := v_71.1) (y := v_71.2) hs.2.1 e_71
            have H3 : HD d_71 h b := (H2.of c1.1 (c1.2 3 (by decide))).of s1.1 (s1.2 3 (by decide))
            rw [s3, s1.2 9 (by decide), c3]
            refine z_cv (t_addJoint l hg H3.1 (show hJ h < 6 by omega) (v := nv tp tl (en tp tl p)) (s := v_64.2) (y := v_71.2)) mk_X2_addJoint mi_X2_addJoint ml_RX3_164 (by omega) (by decide) rfl rfl rfl rfl (Nat.le_of_ble_eq_true rfl) dX3_joint_92 (zvoid fun d_92 q_92 => ?_)
            obtain ⟨u1, u2⟩ := q_92
            refine z_iconst dX3_joint_95 ?_
            exact z_bret (b := true) rfl dX3_joint_96 (PQ.t (v := (v_71.1, addJ h (nv tp tl (en tp tl p)) v_64.2 v_71.2, b)) (by rw [spJoi, if_neg (by omega), if_neg (by omega), if_neg (by omega), e_64]; dsimp only; rw [e_71]) ((((g1.RG.DF.tr g3.RG.DF).tr a_64).tr a_71).tr (DF.of u1 (by decide))) (by rw [u1 20 (by decide), b_71, b_64, g3.2 4 (by decide) (by decide) (by decide) (by decide), g1.2 4 (by decide) (by decide) (by decide) (by decide)]) ⟨s2.of (u1 1 (by decide)) (fun i hi => by rw [u1 20 (by decide)]), u2, by rw [u1 20 (by decide)]; exact H3.2.1, Wf_addJ H3.2.2.1 (by omega) (by omega) hs.2.2 hy.2.2, fun i h1 h2 => by rw [u1 16 (by decide)]; exact H3.2.2.2 i h1 h2⟩)
      · rw [H1.1.1.2.2.2.2.1, decide_eq_false_iff_not] at h_49
        refine z_aload_n 0 dX3_joint_52 rfl rfl ?_
        refine z_iconst dX3_joint_53 ?_
        refine z_cv (t_refuse l hg (k := 2) (s := sk tp tl (en tp tl p)) a2) mk_X3_refuse mi_X3_refuse ml_RX3_87 (by omega) (by decide) rfl rfl rfl rfl (Nat.le_of_ble_eq_true rfl) dX3_joint_54 (fun r_54 d_54 q_54 => ?_)
        obtain ⟨rfl, rfl⟩ := q_54
        show zV l x g mX3_joint 4 _ _ _ [_] _
        exact z_bret rfl dX3_joint_57 (PQ.f (by rw [spJoi, if_neg (by omega), if_neg (by omega), if_pos (by omega)]) (g1.RG.DF.up (by decide)) (zu_at _ _ _ _))
    · refine z_aload_n 0 dX3_joint_30 rfl rfl ?_
      refine z_iconst dX3_joint_31 ?_
      refine z_cv (t_refuse l hg (k := 1) (s := sk tp tl (en tp tl p)) a2) mk_X3_refuse mi_X3_refuse ml_RX3_87 (by omega) (by decide) rfl rfl rfl rfl (Nat.le_of_ble_eq_true rfl) dX3_joint_32 (fun r_32 d_32 q_32 => ?_)
      obtain ⟨rfl, rfl⟩ := q_32
      show zV l x g mX3_joint 4 _ _ _ [_] _
      exact z_bret rfl dX3_joint_35 (PQ.f (by rw [spJoi, if_neg (by omega), if_pos (by omega)]) (g1.RG.DF.up (by decide)) (zu_at _ _ _ _))
  · refine z_aload_n 0 dX3_joint_12 rfl rfl ?_
    refine z_iconst dX3_joint_13 ?_
    refine z_cv (t_refuse l hg (k := 4) (s := sk tp tl p) k2) mk_X3_refuse mi_X3_refuse ml_RX3_87 (by omega) (by decide) rfl rfl rfl rfl (Nat.le_of_ble_eq_true rfl) dX3_joint_14 (fun r_14 d_14 q_14 => ?_)
    obtain ⟨rfl, rfl⟩ := q_14
    show zV l x g mX3_joint 4 _ _ _ [_] _
    exact z_bret rfl dX3_joint_17 (PQ.f (by rw [spJoi, if_pos (by omega)]) (DF.rf.up (by decide)) (zu_at _ _ _ _))
