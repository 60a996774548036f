/-! the class's small methods -/
theorem t_isIn (l : Launch) {g : zG} (hg : zAmOk g) (d : zD) {m s : Nat} (hm : m < 32) (hs : s < 2147483648) : zC l g mX7_isIn 1 [zi (m : Int), zi (s : Int)] d (zpu (zi (zb (s.testBit m))) d) := by
  refine zC_of (L := [(0, _), (1, _)]) mk_X7_isIn (Nat.le_of_ble_eq_true rfl) hg rfl (fun x => ?_)
  refine z_iload_n 1 dX7_isIn_0 rfl rfl ?_
  refine z_iload_n 0 dX7_isIn_1 rfl rfl ?_
  refine z_ishr _ (zshr hs hm) dX7_isIn_2 ?_
  refine z_iconst dX7_isIn_3 ?_
  refine z_iand _ (zand (s / 2 ^ m) 1) dX7_isIn_4 ?_
  refine z_top (zb (s.testBit m)) (by rw [zbit1]; cases s.testBit m <;> rfl) ?_
  refine z_iconst dX7_isIn_5 ?_
  refine z_icmp_ne 13 (zb_in _) (by omega) dX7_isIn_6 (by decide) (fun h_6 => ?_) (fun h_6 => ?_)
  · refine z_iconst dX7_isIn_13 ?_
    exact z_bret (b := false) rfl dX7_isIn_14 (zret_b (by cases hb : s.testBit m <;> simp_all [zb]))
  · refine z_iconst dX7_isIn_9 ?_
    refine z_goto 14 dX7_isIn_10 (by decide) ?_
    exact z_bret (b := true) rfl dX7_isIn_14 (zret_b (by cases hb : s.testBit m <;> simp_all [zb]))
theorem t_isClause (l : Launch) {g : zG} (hg : zAmOk g) (d : zD) {a : Int} (ha : zin a) : zC l g mX7_isClause 1 [zi a] d (zpu (zi (zb (decide (0 ≤ a ∧ a < 8)))) d) := by
  refine zC_of (L := [(0, _)]) mk_X7_isClause (Nat.le_of_ble_eq_true rfl) hg rfl (fun x => ?_)
  refine z_iload_n 0 dX7_isClause_0 rfl rfl ?_
  refine z_if_lt 14 (by omega) dX7_isClause_1 (by decide) (fun h_1 => ?_) (fun h_1 => ?_)
  · refine z_iconst dX7_isClause_14 ?_
    exact z_bret (b := false) rfl dX7_isClause_15 (zret_b (decide_eq_false (by omega)).symm)
  · refine z_iload_n 0 dX7_isClause_4 rfl rfl ?_
    refine z_bipush dX7_isClause_5 (by decide) ?_
    refine z_icmp_ge 14 (by omega) (by omega) dX7_isClause_7 (by decide) (fun h_7 => ?_) (fun h_7 => ?_)
    · refine z_iconst dX7_isClause_14 ?_
      exact z_bret (b := false) rfl dX7_isClause_15 (zret_b (decide_eq_false (by omega)).symm)
    · refine z_iconst dX7_isClause_10 ?_
      refine z_goto 15 dX7_isClause_11 (by decide) ?_
      exact z_bret (b := true) rfl dX7_isClause_15 (zret_b (decide_eq_true (by omega)).symm)
theorem t_isForm (l : Launch) {g : zG} (hg : zAmOk g) (d : zD) {a : Int} (ha : zin a) : zC l g mX7_isForm 1 [zi a] d (zpu (zi (zb (decide (0 ≤ a ∧ a < 256)))) d) := by
  refine zC_of (L := [(0, _)]) mk_X7_isForm (Nat.le_of_ble_eq_true rfl) hg rfl (fun x => ?_)
  refine z_iload_n 0 dX7_isForm_0 rfl rfl ?_
  refine z_if_lt 15 (by omega) dX7_isForm_1 (by decide) (fun h_1 => ?_) (fun h_1 => ?_)
  · refine z_iconst dX7_isForm_15 ?_
    exact z_bret (b := false) rfl dX7_isForm_16 (zret_b (decide_eq_false (by omega)).symm)
  · refine z_iload_n 0 dX7_isForm_4 rfl rfl ?_
    refine z_sipush dX7_isForm_5 (by decide) ?_
    refine z_icmp_ge 15 (by omega) (by omega) dX7_isForm_8 (by decide) (fun h_8 => ?_) (fun h_8 => ?_)
    · refine z_iconst dX7_isForm_15 ?_
      exact z_bret (b := false) rfl dX7_isForm_16 (zret_b (decide_eq_false (by omega)).symm)
    · refine z_iconst dX7_isForm_11 ?_
      refine z_goto 16 dX7_isForm_12 (by decide) ?_
      exact z_bret (b := true) rfl dX7_isForm_16 (zret_b (decide_eq_true (by omega)).symm)
theorem t_isSubset (l : Launch) {g : zG} (hg : zAmOk g) (d : zD) {a : Int} {k : Nat} (ha : zin a) (hk : k ≤ 30) : zC l g mX7_isSubset 1 [zi a, zi (k : Int)] d (zpu (zi (zb (decide (0 ≤ a ∧ a < ((2 ^ k : Nat) : Int))))) d) := by
  have hp := pow_le_30 hk
  refine zC_of (L := [(0, _), (1, _)]) mk_X7_isSubset (Nat.le_of_ble_eq_true rfl) hg rfl (fun x => ?_)
  refine z_iload_n 0 dX7_isSubset_0 rfl rfl ?_
  refine z_if_lt 15 (by omega) dX7_isSubset_1 (by decide) (fun h_1 => ?_) (fun h_1 => ?_)
  · refine z_iconst dX7_isSubset_15 ?_
    exact z_bret (b := false) rfl dX7_isSubset_16 (zret_b (decide_eq_false (by omega)).symm)
  · refine z_iload_n 0 dX7_isSubset_4 rfl rfl ?_
    refine z_iconst dX7_isSubset_5 ?_
    refine z_iload_n 1 dX7_isSubset_6 rfl rfl ?_
    refine z_ishl _ (zshl (s := 1) (m := k) (by omega) (by omega)) dX7_isSubset_7 ?_
    refine z_icmp_ge 15 (by omega) (by omega) dX7_isSubset_8 (by decide) (fun h_8 => ?_) (fun h_8 => ?_)
    · refine z_iconst dX7_isSubset_15 ?_
      exact z_bret (b := false) rfl dX7_isSubset_16 (zret_b (decide_eq_false (by omega)).symm)
    · refine z_iconst dX7_isSubset_11 ?_
      refine z_goto 16 dX7_isSubset_12 (by decide) ?_
      exact z_bret (b := true) rfl dX7_isSubset_16 (zret_b (decide_eq_true (by omega)).symm)
theorem t_hasMotion_2 (l : Launch) {g : zG} (hg : zAmOk g) (d : zD) {a : Int} (ha : zin a) (hd : zin (d 2 3)) : zC l g mX2_hasMotion 1 [zr g 2, zi a] d (zpu (zi (zb (decide (0 ≤ a ∧ a < d 2 3)))) d) := by
  refine zC_of (L := [(0, _), (1, _)]) mk_X2_hasMotion (Nat.le_of_ble_eq_true rfl) hg rfl (fun x => ?_)
  refine z_iload_n 1 dX2_hasMotion_0 rfl rfl ?_
  refine z_if_lt 16 (by omega) dX2_hasMotion_1 (by decide) (fun h_1 => ?_) (fun h_1 => ?_)
  · refine z_iconst dX2_hasMotion_16 ?_
    exact z_bret (b := false) rfl dX2_hasMotion_17 (zret_b (decide_eq_false (by omega)).symm)
  · refine z_iload_n 1 dX2_hasMotion_4 rfl rfl ?_
    refine z_aload_n 0 dX2_hasMotion_5 rfl rfl ?_
    refine z_geti fl_RX2_46 (by decide) rfl rfl dX2_hasMotion_6 ?_
    refine z_icmp_ge 16 (by omega) (by omega) dX2_hasMotion_9 (by decide) (fun h_9 => ?_) (fun h_9 => ?_)
    · refine z_iconst dX2_hasMotion_16 ?_
      exact z_bret (b := false) rfl dX2_hasMotion_17 (zret_b (decide_eq_false (by omega)).symm)
    · refine z_iconst dX2_hasMotion_12 ?_
      refine z_goto 17 dX2_hasMotion_13 (by decide) ?_
      exact z_bret (b := true) rfl dX2_hasMotion_17 (zret_b (decide_eq_true (by omega)).symm)
theorem t_hasVoter_2 (l : Launch) {g : zG} (hg : zAmOk g) (d : zD) {a : Int} (ha : zin a) (hd : zin (d 2 4)) : zC l g mX2_hasVoter 1 [zr g 2, zi a] d (zpu (zi (zb (decide (0 ≤ a ∧ a < d 2 4)))) d) := by
  refine zC_of (L := [(0, _), (1, _)]) mk_X2_hasVoter (Nat.le_of_ble_eq_true rfl) hg rfl (fun x => ?_)
  refine z_iload_n 1 dX2_hasVoter_0 rfl rfl ?_
  refine z_if_lt 16 (by omega) dX2_hasVoter_1 (by decide) (fun h_1 => ?_) (fun h_1 => ?_)
  · refine z_iconst dX2_hasVoter_16 ?_
    exact z_bret (b := false) rfl dX2_hasVoter_17 (zret_b (decide_eq_false (by omega)).symm)
  · refine z_iload_n 1 dX2_hasVoter_4 rfl rfl ?_
    refine z_aload_n 0 dX2_hasVoter_5 rfl rfl ?_
    refine z_geti fl_RX2_49 (by decide) rfl rfl dX2_hasVoter_6 ?_
    refine z_icmp_ge 16 (by omega) (by omega) dX2_hasVoter_9 (by decide) (fun h_9 => ?_) (fun h_9 => ?_)
    · refine z_iconst dX2_hasVoter_16 ?_
      exact z_bret (b := false) rfl dX2_hasVoter_17 (zret_b (decide_eq_false (by omega)).symm)
    · refine z_iconst dX2_hasVoter_12 ?_
      refine z_goto 17 dX2_hasVoter_13 (by decide) ?_
      exact z_bret (b := true) rfl dX2_hasVoter_17 (zret_b (decide_eq_true (by omega)).symm)
theorem t_hasMotion_11 (l : Launch) {g : zG} (hg : zAmOk g) (d : zD) {a : Int} (ha : zin a) (hd : zin (d 11 3)) : zC l g mX2_hasMotion 1 [zr g 11, zi a] d (zpu (zi (zb (decide (0 ≤ a ∧ a < d 11 3)))) d) := by
  refine zC_of (L := [(0, _), (1, _)]) mk_X2_hasMotion (Nat.le_of_ble_eq_true rfl) hg rfl (fun x => ?_)
  refine z_iload_n 1 dX2_hasMotion_0 rfl rfl ?_
  refine z_if_lt 16 (by omega) dX2_hasMotion_1 (by decide) (fun h_1 => ?_) (fun h_1 => ?_)
  · refine z_iconst dX2_hasMotion_16 ?_
    exact z_bret (b := false) rfl dX2_hasMotion_17 (zret_b (decide_eq_false (by omega)).symm)
  · refine z_iload_n 1 dX2_hasMotion_4 rfl rfl ?_
    refine z_aload_n 0 dX2_hasMotion_5 rfl rfl ?_
    refine z_geti fl_RX2_46 (by decide) rfl rfl dX2_hasMotion_6 ?_
    refine z_icmp_ge 16 (by omega) (by omega) dX2_hasMotion_9 (by decide) (fun h_9 => ?_) (fun h_9 => ?_)
    · refine z_iconst dX2_hasMotion_16 ?_
      exact z_bret (b := false) rfl dX2_hasMotion_17 (zret_b (decide_eq_false (by omega)).symm)
    · refine z_iconst dX2_hasMotion_12 ?_
      refine z_goto 17 dX2_hasMotion_13 (by decide) ?_
      exact z_bret (b := true) rfl dX2_hasMotion_17 (zret_b (decide_eq_true (by omega)).symm)
theorem t_hasVoter_11 (l : Launch) {g : zG} (hg : zAmOk g) (d : zD) {a : Int} (ha : zin a) (hd : zin (d 11 4)) : zC l g mX2_hasVoter 1 [zr g 11, zi a] d (zpu (zi (zb (decide (0 ≤ a ∧ a < d 11 4)))) d) := by
  refine zC_of (L := [(0, _), (1, _)]) mk_X2_hasVoter (Nat.le_of_ble_eq_true rfl) hg rfl (fun x => ?_)
  refine z_iload_n 1 dX2_hasVoter_0 rfl rfl ?_
  refine z_if_lt 16 (by omega) dX2_hasVoter_1 (by decide) (fun h_1 => ?_) (fun h_1 => ?_)
  · refine z_iconst dX2_hasVoter_16 ?_
    exact z_bret (b := false) rfl dX2_hasVoter_17 (zret_b (decide_eq_false (by omega)).symm)
  · refine z_iload_n 1 dX2_hasVoter_4 rfl rfl ?_
    refine z_aload_n 0 dX2_hasVoter_5 rfl rfl ?_
    refine z_geti fl_RX2_49 (by decide) rfl rfl dX2_hasVoter_6 ?_
    refine z_icmp_ge 16 (by omega) (by omega) dX2_hasVoter_9 (by decide) (fun h_9 => ?_) (fun h_9 => ?_)
    · refine z_iconst dX2_hasVoter_16 ?_
      exact z_bret (b := false) rfl dX2_hasVoter_17 (zret_b (decide_eq_false (by omega)).symm)
    · refine z_iconst dX2_hasVoter_12 ?_
      refine z_goto 17 dX2_hasVoter_13 (by decide) ?_
      exact z_bret (b := true) rfl dX2_hasVoter_17 (zret_b (decide_eq_true (by omega)).symm)
theorem t_quotaInForce (l : Launch) {g : zG} (hg : zAmOk g) {d : zD} {h : Hl} (w : Wf h) (H : HC 2 d h) : zC l g mX2_quotaInForce 1 [zr g 2] d (zpu (zi (quotaF h : Nat)) d) := by
  obtain ⟨⟨h0, h1, h2, h3, h4, h5⟩, -⟩ := H
  have w1 := w.2.1
  have w2 := w.2.2.2.1
  refine zC_of (L := [(0, _)]) mk_X2_quotaInForce (Nat.le_of_ble_eq_true rfl) hg rfl (fun x => ?_)
  refine z_aload_n 0 dX2_quotaInForce_0 rfl rfl ?_
  refine z_geti fl_RX2_43 (by decide) rfl rfl dX2_quotaInForce_1 ?_
  refine z_if_le 14 (by omega) dX2_quotaInForce_4 (by decide) (fun h_4 => ?_) (fun h_4 => ?_)
  · refine z_aload_n 0 dX2_quotaInForce_14 rfl rfl ?_
    refine z_geti fl_RX2_49 (by decide) rfl rfl dX2_quotaInForce_15 ?_
    refine z_iconst dX2_quotaInForce_18 ?_
    rw [h4]
    refine z_idiv ((hV h / 2 : Nat) : Int) (by decide) (zdiv (a := hV h) (b := 2) (by omega) (by decide) (by decide)) dX2_quotaInForce_19 ?_
    refine z_iconst dX2_quotaInForce_20 ?_
    refine z_iadd dX2_quotaInForce_21 ?_
    exact z_iret rfl dX2_quotaInForce_22 (zret_i (by unfold quotaF; split <;> omega))
  · refine z_aload_n 0 dX2_quotaInForce_7 rfl rfl ?_
    refine z_geti fl_RX2_43 (by decide) rfl rfl dX2_quotaInForce_8 ?_
    refine z_goto 22 dX2_quotaInForce_11 (by decide) ?_
    exact z_iret rfl dX2_quotaInForce_22 (zret_i (by unfold quotaF; split <;> omega))
theorem t_areVoters (l : Launch) {g : zG} (hg : zAmOk g) {d : zD} {h : Hl} (w : Wf h) (H : HC 2 d h) {a : Int} (ha : zin a) : zC l g mX7_areVoters 2 [zr g 0, zi a] d (zpu (zi (zb (decide (0 ≤ a ∧ a < ((2 ^ hV h : Nat) : Int))))) d) := by
  obtain ⟨⟨h0, h1, h2, h3, h4, h5⟩, -⟩ := H
  have w2 := w.2.2.2.1
  refine zC_of (L := [(0, _), (1, _)]) mk_X7_areVoters (Nat.le_of_ble_eq_true rfl) hg rfl (fun x => ?_)
  refine z_iload_n 1 dX7_areVoters_0 rfl rfl ?_
  refine z_aload_n 0 dX7_areVoters_1 rfl rfl ?_
  refine z_getr fl_RX7_16 (by decide) rfl rfl dX7_areVoters_2 ?_
  refine z_geti fl_RX7_119 (by decide) rfl rfl dX7_areVoters_5 ?_
  rw [h4]
  refine z_cs (t_isSubset l hg d ha (by omega)) mk_X7_isSubset ms_X7_isSubset ml_RX7_176 (by omega) rfl rfl (Nat.le_of_ble_eq_true rfl) dX7_areVoters_8 (zpure ?_)
  exact z_bret rfl dX7_areVoters_11 (⟨rfl, rfl⟩)
