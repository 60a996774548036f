/-! the reference: results, ways, minutes, killers -/
theorem RLs_ord {d : zD} {h : Hl} {ord : Nat → Nat} (R : RW d ord (hN h)) : RLs d (ordL h ord) := fun i hi => by
  rw [ordL_len] at hi
  rw [ordL_getD h ord hi]
  exact R i hi
theorem t8_asks (l : Launch) {g : zG} (hg : zAmOk g) {d : zD} {h : Hl} (w : Wf h) (H : HM d h) {ord : Nat → Nat} (O : ∀ i, i < hN h → d 56 i = ord i) (ho : Ord (hN h) ord) {t : Nat} : zC l g mX8_asks 6 [zr g 37, zi (t : Int)] d (fun r d' => r = none ∧ (zF [37, 58, 59, 60, 61] d d' ∧ (∀ i, i ≠ 37 → d' 37 i = d 37 i) ∧ d' 37 37 = (hN h : Nat) ∧ RLs d' (ordL h ord) ∧ EMf d' h t (ordL h ord) 0 ∧ LKM d' h)) := by
  have w3 := w.2.2.1
  refine zC_of (L := [(0, _), (1, _)]) mk_X8_asks (Nat.le_of_ble_eq_true rfl) hg rfl (fun x => ?_)
  refine z_aload_n 0 dX8_asks_0 rfl rfl ?_
  refine z_cv (t8_laysLikes l hg w H) mk_X8_laysLikes mi_X8_laysLikes ml_RX8_272 (by omega) (by decide) rfl rfl rfl rfl (Nat.le_of_ble_eq_true rfl) dX8_asks_1 (zvoid fun d_1 q_1 => ?_)
  obtain ⟨s1, s2⟩ := q_1
  have H1 := HM.of H s1 (by decide)
  refine z_aload_n 0 dX8_asks_4 rfl rfl ?_
  refine z_cv (t8_laysOrder l hg w H1 (ord := ord) (fun i hi => by rw [s1 56 (by decide)]; exact O i hi)) mk_X8_laysOrder mi_X8_laysOrder ml_RX8_275 (by omega) (by decide) rfl rfl rfl rfl (Nat.le_of_ble_eq_true rfl) dX8_asks_5 (zvoid fun d_5 q_5 => ?_)
  obtain ⟨s3, s4⟩ := q_5
  have H2 := HM.of H1 s3 (by decide)
  refine z_aload_n 0 dX8_asks_8 rfl rfl ?_
  refine z_aload_n 0 dX8_asks_9 rfl rfl ?_
  refine z_getr fl_RX8_7 (by decide) rfl rfl dX8_asks_10 ?_
  refine z_iconst dX8_asks_13 ?_
  refine z_iald 1 (by decide) rfl rfl (by decide) (by decide) dX8_asks_14 ?_
  rw [H2.1.2.1, ← ordL_len h ord]
  refine z_iload_n 1 dX8_asks_15 rfl rfl ?_
  refine z_cv (t8_worksOut l hg w H2 (s2.of (s3 59 (by decide))) (ls := ordL h ord) (RLs_ord s4) (by rw [ordL_len]; omega) (ordL_lt ho) (t := t)) mk_X8_worksOut mi_X8_worksOut ml_RX8_278 (by omega) (by decide) rfl rfl rfl rfl (Nat.le_of_ble_eq_true rfl) dX8_asks_16 (zvoid fun d_16 q_16 => ?_)
  obtain ⟨s5, s6, s7, s8⟩ := q_16
  exact z_vret rfl dX8_asks_19 (⟨rfl, ((zF.mono s1 (by decide)).tr (zF.mono s3 (by decide))).tr (zF.mono s5 (by decide)), fun i hi => by rw [s6 i hi, s3 37 (by decide), s1 37 (by decide)], by rw [s7, ordL_len], (RLs_ord s4).of (s5 58 (by decide)), s8, (s2.of (s3 59 (by decide))).of (s5 59 (by decide))⟩)
def wayP (h : Hl) (t : Nat) (ls : List Nat) : Nat → Nat
  | 0 => 0
  | k + 1 => if carB h (yesAt h t ls k (wayS h t ls k)) = true then wayP h t ls k ||| 2 ^ k else wayP h t ls k
theorem wayP_lt (h : Hl) (t : Nat) (ls : List Nat) : ∀ k, wayP h t ls k < 2 ^ k
  | 0 => by simp [wayP]
  | k + 1 => by
    have ih := wayP_lt h t ls k
    have hp : 2 ^ (k + 1) = 2 ^ k + 2 ^ k := by rw [Nat.pow_succ]; omega
    rw [wayP]
    split
    · exact or_lt (by omega) (Nat.pow_lt_pow_right (by decide) (by omega))
    · omega
theorem wayP_mo (h : Hl) (t : Nat) (ls : List Nat) : ∀ k, k ≤ ls.length → mo ls (wayP h t ls k) = wayS h t ls k
  | 0, _ => mo_zero ls
  | k + 1, hk => by
    have ih := wayP_mo h t ls k (by omega)
    rw [wayP, wayS]
    split
    · rw [mo_or (by omega), ih]
    · exact ih
theorem t8_way (l : Launch) {g : zG} (hg : zAmOk g) {d : zD} {h : Hl} (w : Wf h) (H : HM d h) {ls : List Nat} (hl : ls.length ≤ 6) {t : Nat} (E : EMf d h t ls 0) {m : Nat} (hm : m ≤ ls.length) : zC l g mX8_way 1 [zr g 37, zi (m : Int)] d (zpu (zi (wayP h t ls m : Nat)) d) := by
  have w4 := w.2.2.2.1
  have h3 : d 38 3 = hV h := H.1.2.2.2.1
  have key : ∀ (x : zX) (r k : Nat), k ≤ m → m - k < r → zV l x g mX8_way 1 (zpu (zi (wayP h t ls m : Nat)) d) 4 [(0, zr g 37), (1, zi (m : Int)), (2, zi (wayP h t ls k : Nat)), (3, zi (k : Int))] [] d := by
    intro x r
    induction r with
    | zero => intro k hk hr; omega
    | succ r ih =>
      intro k hk hr
      have hpl := wayP_lt h t ls k
      have hp64 : 2 ^ k ≤ 64 := Nat.pow_le_pow_right (n := 2) (by decide) (show k ≤ 6 by omega)
      refine z_iload_n 3 dX8_way_4 rfl rfl ?_
      refine z_iload_n 1 dX8_way_5 rfl rfl ?_
      refine z_icmp_ge 47 (by omega) (by omega) dX8_way_6 (by decide) (fun h_6 => ?_) (fun h_6 => ?_)
      · refine z_iload_n 2 dX8_way_47 rfl rfl ?_
        rw [show k = m by omega]
        exact z_iret rfl dX8_way_48 (⟨rfl, rfl⟩)
      · have e : d 61 (64 * k + wayP h t ls k) = (yesAt h t ls k (wayS h t ls k) : Nat) := by rw [(E k (wayP h t ls k) (by omega) (by omega) hpl).2, yM, if_neg (by omega), wayP_mo h t ls k (by omega)]
        have hy9 : yesAt h t ls k (wayS h t ls k) ≤ hV h := yesN_le _ _ _ _ _ _ _
        have hpk : 2 ^ k ≤ 32 := bit_le (show k < ls.length by omega) hl
        refine z_iload_n 2 dX8_way_9 rfl rfl ?_
        refine z_iconst dX8_way_10 ?_
        refine z_aload_n 0 dX8_way_11 rfl rfl ?_
        refine z_getr fl_RX8_79 (by decide) rfl rfl dX8_way_12 ?_
        refine z_bipush dX8_way_15 (by decide) ?_
        refine z_iload_n 3 dX8_way_17 rfl rfl ?_
        refine z_imul dX8_way_18 ?_
        refine z_iload_n 2 dX8_way_19 rfl rfl ?_
        refine z_iadd dX8_way_20 ?_
        refine z_iald (64 * k + wayP h t ls k) (by decide) rfl (by omega) (by omega) (by decide) dX8_way_21 ?_
        rw [e]
        refine z_imul dX8_way_22 ?_
        refine z_aload_n 0 dX8_way_23 rfl rfl ?_
        refine z_getr fl_RX8_7 (by decide) rfl rfl dX8_way_24 ?_
        refine z_iconst dX8_way_27 ?_
        refine z_iald 3 (by decide) rfl rfl (by decide) (by decide) dX8_way_28 ?_
        rw [h3]
        refine z_icmp_le 38 (by omega) (by omega) dX8_way_29 (by decide) (fun h_29 => ?_) (fun h_29 => ?_)
        · refine z_iconst dX8_way_38 ?_
          refine z_top ((0 : Nat) : Int) rfl ?_
          refine z_ior _ (zor _ _) dX8_way_39 ?_
          refine z_istore_n (L' := [(0, _), (1, _), (2, _), (3, _)]) dX8_way_40 rfl (by decide) rfl rfl ?_
          refine z_iinc 3 (L' := [(0, _), (1, _), (2, _), (3, _)]) dX8_way_41 (by decide) rfl rfl rfl ?_
          refine z_goto 4 dX8_way_44 (by decide) ?_
          refine z_LL _ ?_ (ih (k + 1) (by omega) (by omega))
          rw [wayP, if_neg (by rw [carB, decide_eq_true_eq]; omega), Nat.or_zero]; rfl
        · refine z_iconst dX8_way_32 ?_
          refine z_iload_n 3 dX8_way_33 rfl rfl ?_
          refine z_ishl _ (zshl (s := 1) (m := k) (by omega) (by omega)) dX8_way_34 ?_
          refine z_goto 39 dX8_way_35 (by decide) ?_
          rw [Nat.one_mul]
          refine z_ior _ (zor _ _) dX8_way_39 ?_
          refine z_istore_n (L' := [(0, _), (1, _), (2, _), (3, _)]) dX8_way_40 rfl (by decide) rfl rfl ?_
          refine z_iinc 3 (L' := [(0, _), (1, _), (2, _), (3, _)]) dX8_way_41 (by decide) rfl rfl rfl ?_
          refine z_goto 4 dX8_way_44 (by decide) ?_
          refine z_LL _ ?_ (ih (k + 1) (by omega) (by omega))
          rw [wayP, if_pos (by rw [carB, decide_eq_true_eq]; omega)]; rfl
  refine zC_of (L := [(0, _), (1, _)]) mk_X8_way (Nat.le_of_ble_eq_true rfl) hg rfl (fun x => ?_)
  refine z_iconst dX8_way_0 ?_
  refine z_istore_n (L' := [(0, _), (1, _), (2, _)]) dX8_way_1 rfl (by decide) rfl rfl ?_
  refine z_iconst dX8_way_2 ?_
  refine z_istore_n (L' := [(0, _), (1, _), (2, _), (3, _)]) dX8_way_3 rfl (by decide) rfl rfl ?_
  exact key x (m + 1) 0 (by omega) (by omega)
theorem t8_result (l : Launch) {g : zG} (hg : zAmOk g) {d : zD} {h : Hl} {ord : Nat → Nat} {tl : Nat} {tp : Nat → Nat} {fl : Int} (I : IM d h ord tl tp fl) {a : Int} (ha : zin a) : zC l g mX8_result 7 [zr g 37, zi a] d (anM d h ord tl tp fl (resS h ord a)) := by
  obtain ⟨w, H, O, T, hfl, ho⟩ := id (I.ra 0)
  refine zC_of (L := [(0, _), (1, _)]) mk_X8_result (Nat.le_of_ble_eq_true rfl) hg rfl (fun x => ?_)
  refine z_aload_n 0 dX8_result_0 rfl rfl ?_
  refine z_iconst dX8_result_1 ?_
  refine z_puti fp_RX8_95 (by decide) rfl rfl dX8_result_2 ?_
  refine z_aload_n 0 dX8_result_5 rfl rfl ?_
  refine z_iload_n 1 dX8_result_6 rfl rfl ?_
  refine z_cv (t8_isSet l hg w H ha) mk_X8_isSetOfVoters mi_X8_isSetOfVoters ml_RX8_281 (by omega) (by decide) rfl rfl rfl rfl (Nat.le_of_ble_eq_true rfl) dX8_result_7 (zpure ?_)
  refine z_if_ne_b 15 dX8_result_10 (by decide) (fun h_10 => ?_) (fun h_10 => ?_)
  · have h10 := of_decide_eq_true h_10
    refine z_aload_n 0 dX8_result_15 rfl rfl ?_
    refine z_iload_n 1 dX8_result_16 rfl rfl ?_
    refine z_top ((a.toNat : Nat) : Int) (by omega) ?_
    refine z_cv (t8_asks l hg w H O ho (t := a.toNat)) mk_X8_asks mi_X8_asks ml_RX8_284 (by omega) (by decide) rfl rfl rfl rfl (Nat.le_of_ble_eq_true rfl) dX8_result_17 (zvoid fun d_17 q_17 => ?_)
    obtain ⟨s1, s2, s3, s4, s5, sK⟩ := q_17
    refine z_aload_n 0 dX8_result_20 rfl rfl ?_
    refine z_getr fl_RX8_76 (by decide) rfl rfl dX8_result_21 ?_
    refine z_iconst dX8_result_24 ?_
    refine z_iald 0 (by decide) rfl rfl (by decide) (by decide) dX8_result_25 ?_
    have e := (s5 0 0 (Nat.le_refl _) (by omega) (by decide)).1
    rw [show (0 : Nat) = 64 * 0 + 0 from rfl, e, show eM h a.toNat (ordL h ord) 0 0 = finF h a.toNat (ordL h ord) 0 by rw [eM, mo_zero]; rfl]
    exact z_iret rfl dX8_result_26 (anM.rf ((MF.ra 0).tr (MF.of s1 (by decide))) ((I.ra 0).of s1 (by decide) (s2 21 (by decide)) (s2 22 (by decide))) (by rw [resS, if_pos h_10]))
  · refine z_iconst dX8_result_13 ?_
    exact z_iret rfl dX8_result_14 (anM.rf (MF.ra 0) (I.ra 0) (by rw [resS, if_neg (by rw [h_10]; decide)]))
theorem t8_adopted (l : Launch) {g : zG} (hg : zAmOk g) {d : zD} {h : Hl} {ord : Nat → Nat} {tl : Nat} {tp : Nat → Nat} {fl : Int} (I : IM d h ord tl tp fl) {a : Int} (ha : zin a) : zC l g mX8_adopted 7 [zr g 37, zi a] d (anM d h ord tl tp fl (adoS h ord a)) := by
  obtain ⟨w, H, O, T, hfl, ho⟩ := id (I.ra 0)
  have w3 := w.2.2.1
  refine zC_of (L := [(0, _), (1, _)]) mk_X8_adopted (Nat.le_of_ble_eq_true rfl) hg rfl (fun x => ?_)
  refine z_aload_n 0 dX8_adopted_0 rfl rfl ?_
  refine z_iconst dX8_adopted_1 ?_
  refine z_puti fp_RX8_95 (by decide) rfl rfl dX8_adopted_2 ?_
  refine z_aload_n 0 dX8_adopted_5 rfl rfl ?_
  refine z_iload_n 1 dX8_adopted_6 rfl rfl ?_
  refine z_cv (t8_isSet l hg w H ha) mk_X8_isSetOfVoters mi_X8_isSetOfVoters ml_RX8_281 (by omega) (by decide) rfl rfl rfl rfl (Nat.le_of_ble_eq_true rfl) dX8_adopted_7 (zpure ?_)
  refine z_if_ne_b 15 dX8_adopted_10 (by decide) (fun h_10 => ?_) (fun h_10 => ?_)
  · have h10 := of_decide_eq_true h_10
    refine z_aload_n 0 dX8_adopted_15 rfl rfl ?_
    refine z_iload_n 1 dX8_adopted_16 rfl rfl ?_
    refine z_top ((a.toNat : Nat) : Int) (by omega) ?_
    refine z_cv (t8_asks l hg w H O ho (t := a.toNat)) mk_X8_asks mi_X8_asks ml_RX8_284 (by omega) (by decide) rfl rfl rfl rfl (Nat.le_of_ble_eq_true rfl) dX8_adopted_17 (zvoid fun d_17 q_17 => ?_)
    obtain ⟨s1, s2, s3, s4, s5, sK⟩ := q_17
    have H2 := HM.of H s1 (by decide)
    refine z_aload_n 0 dX8_adopted_20 rfl rfl ?_
    refine z_aload_n 0 dX8_adopted_21 rfl rfl ?_
    refine z_aload_n 0 dX8_adopted_22 rfl rfl ?_
    refine z_geti fl_RX8_253 (by decide) rfl rfl dX8_adopted_23 ?_
    rw [s3]
    refine z_cv (t8_way l hg w H2 (ls := ordL h ord) (by rw [ordL_len]; omega) s5 (m := hN h) (by rw [ordL_len]; exact Nat.le_refl _)) mk_X8_way mi_X8_way ml_RX8_287 (by omega) (by decide) rfl rfl rfl rfl (Nat.le_of_ble_eq_true rfl) dX8_adopted_26 (zpure ?_)
    refine z_cv (t8_motionsOf l hg w s4 (by rw [ordL_len]; omega) (ordL_lt ho) (by rw [ordL_len]; exact s3) (P := wayP h a.toNat (ordL h ord) (hN h))) mk_X8_motionsOf mi_X8_motionsOf ml_RX8_256 (by omega) (by decide) rfl rfl rfl rfl (Nat.le_of_ble_eq_true rfl) dX8_adopted_29 (zpure ?_)
    rw [wayP_mo h a.toNat (ordL h ord) (hN h) (by rw [ordL_len]; exact Nat.le_refl _)]
    exact z_iret rfl dX8_adopted_32 (anM.rf ((MF.ra 0).tr (MF.of s1 (by decide))) ((I.ra 0).of s1 (by decide) (s2 21 (by decide)) (s2 22 (by decide))) (by rw [adoS, if_pos h_10]))
  · refine z_iconst dX8_adopted_13 ?_
    exact z_iret rfl dX8_adopted_14 (anM.rf (MF.ra 0) (I.ra 0) (by rw [adoS, if_neg (by rw [h_10]; decide)]))
theorem yM_way {h : Hl} {ord : Nat → Nat} {t k : Nat} (hk : k ≤ hN h) : yM h t (ordL h ord) k (wayP h t (ordL h ord) k) = yesW h ord t k := by
  rw [yM, yesW, wayP_mo h t (ordL h ord) k (by rw [ordL_len]; exact hk), ordL_len]
  by_cases e : k = hN h
  · rw [if_pos e, if_neg (by omega), e]
  · rw [if_neg e, if_pos (by omega)]
theorem t8_yes (l : Launch) {g : zG} (hg : zAmOk g) {d : zD} {h : Hl} {ord : Nat → Nat} {tl : Nat} {tp : Nat → Nat} {fl : Int} (I : IM d h ord tl tp fl) {a b : Int} (ha : zin a) (hb : zin b) : zC l g mX8_yes 7 [zr g 37, zi a, zi b] d (anM d h ord tl tp fl (yesS h ord a b)) := by
  obtain ⟨w, H, O, T, hfl, ho⟩ := id (I.ra 0)
  have w3 := w.2.2.1
  refine zC_of (L := [(0, _), (1, _), (2, _)]) mk_X8_yes (Nat.le_of_ble_eq_true rfl) hg rfl (fun x => ?_)
  refine z_aload_n 0 dX8_yes_0 rfl rfl ?_
  refine z_iconst dX8_yes_1 ?_
  refine z_puti fp_RX8_95 (by decide) rfl rfl dX8_yes_2 ?_
  refine z_aload_n 0 dX8_yes_5 rfl rfl ?_
  refine z_iload_n 1 dX8_yes_6 rfl rfl ?_
  refine z_cv (t8_isSet l hg w H ha) mk_X8_isSetOfVoters mi_X8_isSetOfVoters ml_RX8_281 (by omega) (by decide) rfl rfl rfl rfl (Nat.le_of_ble_eq_true rfl) dX8_yes_7 (zpure ?_)
  refine z_if_eq_b 27 dX8_yes_10 (by decide) (fun h_10 => ?_) (fun h_10 => ?_)
  · refine z_iconst dX8_yes_27 ?_
    have hno : ¬ (tB h a = true ∧ 0 ≤ b ∧ b ≤ (hN h : Int)) := fun z => by rw [h_10] at z; cases z.1
    exact z_iret rfl dX8_yes_28 (anM.rf (MF.ra 0) (I.ra 0) (by rw [yesS, if_neg hno]))
  · refine z_iload_n 2 dX8_yes_13 rfl rfl ?_
    refine z_iconst dX8_yes_14 ?_
    refine z_aload_n 0 dX8_yes_15 rfl rfl ?_
    refine z_getr fl_RX8_7 (by decide) rfl rfl dX8_yes_16 ?_
    refine z_iconst dX8_yes_19 ?_
    refine z_iald 1 (by decide) rfl rfl (by decide) (by decide) dX8_yes_20 ?_
    rw [H.1.2.1]
    refine z_cs (t8_in l hg _ (a := b) (b := 0) (c := (hN h : Int)) hb (by decide) (by omega)) mk_X8_in ms_X8_in ml_RX8_106 (by omega) rfl rfl (Nat.le_of_ble_eq_true rfl) dX8_yes_21 (zpure ?_)
    refine z_if_ne_b 29 dX8_yes_24 (by decide) (fun h_24 => ?_) (fun h_24 => ?_)
    · have h10 := of_decide_eq_true h_10
      have h24 := of_decide_eq_true h_24
      refine z_aload_n 0 dX8_yes_29 rfl rfl ?_
      refine z_iload_n 1 dX8_yes_30 rfl rfl ?_
      refine z_top ((a.toNat : Nat) : Int) (by omega) ?_
      refine z_cv (t8_asks l hg w H O ho (t := a.toNat)) mk_X8_asks mi_X8_asks ml_RX8_284 (by omega) (by decide) rfl rfl rfl rfl (Nat.le_of_ble_eq_true rfl) dX8_yes_31 (zvoid fun d_31 q_31 => ?_)
      obtain ⟨s1, s2, s3, s4, s5, sK⟩ := q_31
      have H2 := HM.of H s1 (by decide)
      refine z_aload_n 0 dX8_yes_34 rfl rfl ?_
      refine z_getr fl_RX8_79 (by decide) rfl rfl dX8_yes_35 ?_
      refine z_bipush dX8_yes_38 (by decide) ?_
      refine z_iload_n 2 dX8_yes_40 rfl rfl ?_
      refine z_imul dX8_yes_41 ?_
      refine z_aload_n 0 dX8_yes_42 rfl rfl ?_
      refine z_iload_n 2 dX8_yes_43 rfl rfl ?_
      refine z_top ((b.toNat : Nat) : Int) (by omega) ?_
      refine z_cv (t8_way l hg w H2 (ls := ordL h ord) (by rw [ordL_len]; omega) s5 (m := b.toNat) (by rw [ordL_len]; omega)) mk_X8_way mi_X8_way ml_RX8_287 (by omega) (by decide) rfl rfl rfl rfl (Nat.le_of_ble_eq_true rfl) dX8_yes_44 (zpure ?_)
      refine z_iadd dX8_yes_47 ?_
      have hwl := wayP_lt h a.toNat (ordL h ord) b.toNat
      have hp64 : 2 ^ b.toNat ≤ 64 := Nat.pow_le_pow_right (n := 2) (by decide) (show b.toNat ≤ 6 by omega)
      refine z_iald (64 * b.toNat + wayP h a.toNat (ordL h ord) b.toNat) (by decide) rfl (by omega) (by omega) (by decide) dX8_yes_48 ?_
      rw [(s5 b.toNat (wayP h a.toNat (ordL h ord) b.toNat) (Nat.zero_le _) (by rw [ordL_len]; omega) hwl).2, yM_way (by omega)]
      exact z_iret rfl dX8_yes_49 (anM.rf ((MF.ra 0).tr (MF.of s1 (by decide))) ((I.ra 0).of s1 (by decide) (s2 21 (by decide)) (s2 22 (by decide))) (by rw [yesS, if_pos ⟨h_10, h24⟩]))
    · refine z_iconst dX8_yes_27 ?_
      have hno : ¬ (tB h a = true ∧ 0 ≤ b ∧ b ≤ (hN h : Int)) := fun z => by have := of_decide_eq_false h_24; omega
      exact z_iret rfl dX8_yes_28 (anM.rf (MF.ra 0) (I.ra 0) (by rw [yesS, if_neg hno]))
theorem t8_says (l : Launch) {g : zG} (hg : zAmOk g) {d : zD} {m : Nat} {c : Int} (e : d 37 39 = (m : Nat)) (hm : m < 80) : zC l g mX8_says 1 [zr g 37, zi c] d (fun r d' => r = none ∧ d' = zu (zu d 62 m c) 37 39 ((m + 1 : Nat) : Int)) := by
  refine zC_of (L := [(0, _), (1, _)]) mk_X8_says (Nat.le_of_ble_eq_true rfl) hg rfl (fun x => ?_)
  refine z_aload_n 0 dX8_says_0 rfl rfl ?_
  refine z_getr fl_RX8_82 (by decide) rfl rfl dX8_says_1 ?_
  refine z_aload_n 0 dX8_says_4 rfl rfl ?_
  refine z_geti fl_RX8_290 (by decide) rfl rfl dX8_says_5 ?_
  refine z_iload_n 1 dX8_says_8 rfl rfl ?_
  rw [e]
  refine z_iast m (by decide) rfl rfl (by omega) (by decide) dX8_says_9 ?_
  refine z_aload_n 0 dX8_says_10 rfl rfl ?_
  refine z_dup dX8_says_11 rfl ?_
  refine z_geti fl_RX8_290 (by decide) rfl rfl dX8_says_12 ?_
  rw [zu_ne (by decide), e]
  refine z_iconst dX8_says_15 ?_
  refine z_iadd dX8_says_16 ?_
  refine z_puti fp_RX8_290 (by decide) rfl rfl dX8_says_17 ?_
  exact z_vret rfl dX8_says_20 (⟨rfl, rfl⟩)
/-- what has been said -/
def SDm (d0 d : zD) (h : Hl) (ord : Nat → Nat) (t m : Nat) : Prop := zF [37, 62] d0 d ∧ (∀ i, i ≠ 39 → d 37 i = d0 37 i) ∧ d 37 39 = (m : Nat) ∧ ∀ i, i < m → d 62 i = minF h ord (i / 7) (yesW h ord t (i / 7)) (i % 7)
theorem SDm.up {d0 d : zD} {h : Hl} {ord : Nat → Nat} {t m : Nat} (S : SDm d0 d h ord t m) {c : Int} (hc : c = minF h ord (m / 7) (yesW h ord t (m / 7)) (m % 7)) : SDm d0 (zu (zu d 62 m c) 37 39 ((m + 1 : Nat) : Int)) h ord t (m + 1) := by
  refine ⟨(S.1.up (by decide)).up (by decide), fun i hi => by rw [zu_row, if_neg hi, zu_ne (by decide)]; exact S.2.1 i hi, zu_at _ _ _ _, fun i hi => ?_⟩
  rw [zu_ne (by decide), zu_row]
  split
  · rename_i e; rw [e]; exact hc
  · exact S.2.2.2 i (by omega)
theorem t8_minutes (l : Launch) {g : zG} (hg : zAmOk g) {d : zD} {h : Hl} {ord : Nat → Nat} {tl : Nat} {tp : Nat → Nat} {fl : Int} (I : IM d h ord tl tp fl) {a b : Int} (ha : zin a) (hb : zin b) : zC l g mX8_minutes 7 [zr g 37, zi a, zi b] d (anM d h ord tl tp fl (minS h ord a b)) := by
  obtain ⟨w, H, O, T, hfl, ho⟩ := id (I.ra 0)
  have w3 := w.2.2.1
  have w4 := w.2.2.2.1
  have hq : quotaF h < 100 := by have := w.2.1; unfold quotaF; split <;> omega
  have key : ∀ (x : zX) (t : Nat) (d0 : zD), a = (t : Int) → tB h a = true → zF [37, 58, 59, 60, 61] (zu d 37 0 0) d0 → (∀ i, i ≠ 37 → d0 37 i = zu d 37 0 0 37 i) → d0 37 37 = (hN h : Nat) → RLs d0 (ordL h ord) → EMf d0 h t (ordL h ord) 0 → ∀ (r k : Nat) (d1 : zD), SDm d0 d1 h ord t (7 * k) → k ≤ hN h + 1 → hN h + 1 - k < r → zV l x g mX8_minutes 7 (anM d h ord tl tp fl (minS h ord a b)) 27 [(0, zr g 37), (1, zi a), (2, zi b), (3, zi (k : Int))] [] d1 := by
    intro x t d0 hat ht F e37 n37 R E r
    have H0 := HM.of H F (by decide)
    induction r with
    | zero => intro k d1 a1 a2 hr; omega
    | succ r ih =>
      intro k d1 S hk hr
      have f37 : d1 37 37 = (hN h : Nat) := by rw [S.2.1 37 (by decide)]; exact n37
      have H1 : HM d1 h := HM.of H0 S.1 (by decide)
      have E1 : EMf d1 h t (ordL h ord) 0 := fun k2 P a1 a2 a3 => by rw [S.1 60 (by decide), S.1 61 (by decide)]; exact E k2 P a1 a2 a3
      have hend : ∀ v : Int, v = minS h ord a b → anM d h ord tl tp fl (minS h ord a b) (some (zi v)) d1 := fun v hv => by
        refine anM.rf ((MF.ra 0).tr ((MF.of F (by decide)).tr (MF.of S.1 (by decide)))) ?_ hv
        exact ((I.ra 0).of F (by decide) (e37 21 (by decide)) (e37 22 (by decide))).of S.1 (by decide) (S.2.1 21 (by decide)) (S.2.1 22 (by decide))
      refine z_iload_n 3 dX8_minutes_27 rfl rfl ?_
      refine z_aload_n 0 dX8_minutes_28 rfl rfl ?_
      refine z_geti fl_RX8_253 (by decide) rfl rfl dX8_minutes_29 ?_
      rw [f37]
      refine z_icmp_gt 171 (by omega) (by omega) dX8_minutes_32 (by decide) (fun h_32 => ?_) (fun h_32 => ?_)
      · have hkE : k = hN h + 1 := by omega
        have e39 : d1 37 39 = 7 * ((hN h : Int) + 1) := by rw [S.2.2.1, hkE]; omega
        refine z_iload_n 2 dX8_minutes_171 rfl rfl ?_
        refine z_iconst dX8_minutes_172 ?_
        refine z_icmp_ne 183 (by omega) (by omega) dX8_minutes_173 (by decide) (fun h_173 => ?_) (fun h_173 => ?_)
        · refine z_iload_n 2 dX8_minutes_183 rfl rfl ?_
          refine z_iconst dX8_minutes_184 ?_
          refine z_aload_n 0 dX8_minutes_185 rfl rfl ?_
          refine z_geti fl_RX8_290 (by decide) rfl rfl dX8_minutes_186 ?_
          refine z_iconst dX8_minutes_189 ?_
          refine z_isub dX8_minutes_190 ?_
          rw [e39]
          refine z_cs (t8_in l hg d1 (a := b) (b := 0) (c := 7 * ((hN h : Int) + 1) - 1) hb (by decide) (by omega)) mk_X8_in ms_X8_in ml_RX8_106 (by omega) rfl rfl (Nat.le_of_ble_eq_true rfl) dX8_minutes_191 (zpure ?_)
          refine z_if_eq_b 206 dX8_minutes_194 (by decide) (fun h_194 => ?_) (fun h_194 => ?_)
          · refine z_iconst dX8_minutes_206 ?_
            have h194 := of_decide_eq_false h_194
            exact z_iret rfl dX8_minutes_207 (hend _ (by rw [minS, if_neg (fun z => by omega)]))
          · refine z_aload_n 0 dX8_minutes_197 rfl rfl ?_
            refine z_getr fl_RX8_82 (by decide) rfl rfl dX8_minutes_198 ?_
            refine z_iload_n 2 dX8_minutes_201 rfl rfl ?_
            have h194 := of_decide_eq_true h_194
            refine z_iald b.toNat (by decide) rfl (by omega) (by omega) (by decide) dX8_minutes_202 ?_
            refine z_goto 207 dX8_minutes_203 (by decide) ?_
            exact z_iret rfl dX8_minutes_207 (hend _ (by rw [minS, if_pos ⟨ht, by omega, by omega⟩, if_neg (by omega), S.2.2.2 b.toNat (by omega), hat, Int.toNat_natCast]))
        · refine z_aload_n 0 dX8_minutes_176 rfl rfl ?_
          refine z_geti fl_RX8_290 (by decide) rfl rfl dX8_minutes_177 ?_
          refine z_goto 207 dX8_minutes_180 (by decide) ?_
          rw [e39]
          exact z_iret rfl dX8_minutes_207 (hend _ (by rw [minS, if_pos ⟨ht, by omega, by omega⟩, if_pos (by omega)]))
      · have hkN : k ≤ hN h := by omega
        have hwl := wayP_lt h t (ordL h ord) k
        have hp64 : 2 ^ k ≤ 64 := Nat.pow_le_pow_right (n := 2) (by decide) (show k ≤ 6 by omega)
        have hy9 : yesW h ord t k ≤ hV h := by
          unfold yesW
          split
          · exact yesN_le _ _ _ _ _ _ _
          · exact prefN_le _ _ _ _
        refine z_aload_n 0 dX8_minutes_35 rfl rfl ?_
        refine z_getr fl_RX8_79 (by decide) rfl rfl dX8_minutes_36 ?_
        refine z_bipush dX8_minutes_39 (by decide) ?_
        refine z_iload_n 3 dX8_minutes_41 rfl rfl ?_
        refine z_imul dX8_minutes_42 ?_
        refine z_aload_n 0 dX8_minutes_43 rfl rfl ?_
        refine z_iload_n 3 dX8_minutes_44 rfl rfl ?_
        refine z_cv (t8_way l hg w H1 (ls := ordL h ord) (by rw [ordL_len]; omega) E1 (m := k) (by rw [ordL_len]; omega)) mk_X8_way mi_X8_way ml_RX8_287 (by omega) (by decide) rfl rfl rfl rfl (Nat.le_of_ble_eq_true rfl) dX8_minutes_45 (zpure ?_)
        refine z_iadd dX8_minutes_48 ?_
        refine z_iald (64 * k + wayP h t (ordL h ord) k) (by decide) rfl (by omega) (by omega) (by decide) dX8_minutes_49 ?_
        rw [(E1 k (wayP h t (ordL h ord) k) (Nat.zero_le _) (by rw [ordL_len]; omega) hwl).2, yM_way hkN]
        refine z_istore (L' := [(0, _), (1, _), (2, _), (3, _), (4, _)]) dX8_minutes_50 (by decide) rfl rfl ?_
        refine z_aload_n 0 dX8_minutes_52 rfl rfl ?_
        refine z_iload_n 3 dX8_minutes_53 rfl rfl ?_
        refine z_aload_n 0 dX8_minutes_54 rfl rfl ?_
        refine z_geti fl_RX8_253 (by decide) rfl rfl dX8_minutes_55 ?_
        rw [f37]
        refine z_icmp_ge 73 (by omega) (by omega) dX8_minutes_58 (by decide) (fun h_58 => ?_) (fun h_58 => ?_)
        · refine z_bipush dX8_minutes_73 (by decide) ?_
          refine z_top (minF h ord (7 * k / 7) (yesW h ord t (7 * k / 7)) (7 * k % 7)) (by rw [show 7 * k / 7 = k by omega, show 7 * k % 7 = 0 by omega]; show _ = (if k = hN h then (112 : Int) else 48 + (ord k : Int)); rw [if_pos (by omega)]) ?_
          refine z_cv (t8_says l hg (d := d1) (m := 7 * k) S.2.2.1 (by omega)) mk_X8_says mi_X8_says ml_RX8_293 (by omega) (by decide) rfl rfl rfl rfl (Nat.le_of_ble_eq_true rfl) dX8_minutes_75 (fun r_75 d_75 q_75 => ?_)
          obtain ⟨rfl, hd75⟩ := q_75
          have S1 : SDm d0 d_75 h ord t (7 * k + 1) := by rw [hd75]; exact S.up rfl
          show zV l x g mX8_minutes 7 _ _ _ [] _
          refine z_aload_n 0 dX8_minutes_78 rfl rfl ?_
          refine z_bipush dX8_minutes_79 (by decide) ?_
          refine z_cv (t8_says l hg (d := d_75) (m := 7 * k + 1) S1.2.2.1 (by omega)) mk_X8_says mi_X8_says ml_RX8_293 (by omega) (by decide) rfl rfl rfl rfl (Nat.le_of_ble_eq_true rfl) dX8_minutes_81 (fun r_81 d_81 q_81 => ?_)
          obtain ⟨rfl, hd81⟩ := q_81
          have S2 : SDm d0 d_81 h ord t (7 * k + 2) := by rw [hd81]; exact S1.up (by rw [show (7 * k + 1) / 7 = k by omega, show (7 * k + 1) % 7 = 1 by omega]; rfl)
          show zV l x g mX8_minutes 7 _ _ _ [] _
          refine z_aload_n 0 dX8_minutes_84 rfl rfl ?_
          refine z_bipush dX8_minutes_85 (by decide) ?_
          refine z_iload 4 dX8_minutes_87 rfl ?_
          refine z_iadd dX8_minutes_89 ?_
          refine z_cv (t8_says l hg (d := d_81) (m := 7 * k + 2) S2.2.2.1 (by omega)) mk_X8_says mi_X8_says ml_RX8_293 (by omega) (by decide) rfl rfl rfl rfl (Nat.le_of_ble_eq_true rfl) dX8_minutes_90 (fun r_90 d_90 q_90 => ?_)
          obtain ⟨rfl, hd90⟩ := q_90
          have S3 : SDm d0 d_90 h ord t (7 * k + 3) := by rw [hd90]; exact S2.up (by rw [show (7 * k + 2) / 7 = k by omega, show (7 * k + 2) % 7 = 2 by omega]; rfl)
          show zV l x g mX8_minutes 7 _ _ _ [] _
          refine z_aload_n 0 dX8_minutes_93 rfl rfl ?_
          refine z_bipush dX8_minutes_94 (by decide) ?_
          refine z_cv (t8_says l hg (d := d_90) (m := 7 * k + 3) S3.2.2.1 (by omega)) mk_X8_says mi_X8_says ml_RX8_293 (by omega) (by decide) rfl rfl rfl rfl (Nat.le_of_ble_eq_true rfl) dX8_minutes_96 (fun r_96 d_96 q_96 => ?_)
          obtain ⟨rfl, hd96⟩ := q_96
          have S4 : SDm d0 d_96 h ord t (7 * k + 4) := by rw [hd96]; exact S3.up (by rw [show (7 * k + 3) / 7 = k by omega, show (7 * k + 3) % 7 = 3 by omega]; rfl)
          have H4 : HM d_96 h := HM.of H0 S4.1 (by decide)
          show zV l x g mX8_minutes 7 _ _ _ [] _
          refine z_aload_n 0 dX8_minutes_99 rfl rfl ?_
          refine z_bipush dX8_minutes_100 (by decide) ?_
          refine z_aload_n 0 dX8_minutes_102 rfl rfl ?_
          refine z_getr fl_RX8_7 (by decide) rfl rfl dX8_minutes_103 ?_
          refine z_iconst dX8_minutes_106 ?_
          refine z_iald 3 (by decide) rfl rfl (by decide) (by decide) dX8_minutes_107 ?_
          rw [H4.1.2.2.2.1]
          refine z_iadd dX8_minutes_108 ?_
          refine z_iload 4 dX8_minutes_109 rfl ?_
          refine z_isub dX8_minutes_111 ?_
          refine z_cv (t8_says l hg (d := d_96) (m := 7 * k + 4) S4.2.2.1 (by omega)) mk_X8_says mi_X8_says ml_RX8_293 (by omega) (by decide) rfl rfl rfl rfl (Nat.le_of_ble_eq_true rfl) dX8_minutes_112 (fun r_112 d_112 q_112 => ?_)
          obtain ⟨rfl, hd112⟩ := q_112
          have S5 : SDm d0 d_112 h ord t (7 * k + 5) := by rw [hd112]; exact S4.up (by rw [show (7 * k + 4) / 7 = k by omega, show (7 * k + 4) % 7 = 4 by omega]; rfl)
          have H5 : HM d_112 h := HM.of H0 S5.1 (by decide)
          have g37 : d_112 37 37 = (hN h : Nat) := by rw [S5.2.1 37 (by decide)]; exact n37
          show zV l x g mX8_minutes 7 _ _ _ [] _
          refine z_aload_n 0 dX8_minutes_115 rfl rfl ?_
          refine z_iload_n 3 dX8_minutes_116 rfl rfl ?_
          refine z_aload_n 0 dX8_minutes_117 rfl rfl ?_
          refine z_geti fl_RX8_253 (by decide) rfl rfl dX8_minutes_118 ?_
          rw [g37]
          refine z_icmp_ge 140 (by omega) (by omega) dX8_minutes_121 (by decide) (fun h_121 => ?_) (fun h_121 => ?_)
          · refine z_iload 4 dX8_minutes_140 rfl ?_
            refine z_aload_n 0 dX8_minutes_142 rfl rfl ?_
            refine z_cv (t8_quota l hg w H5) mk_X8_quota mi_X8_quota ml_RX8_262 (by omega) (by decide) rfl rfl rfl rfl (Nat.le_of_ble_eq_true rfl) dX8_minutes_143 (zpure ?_)
            refine z_icmp_lt 154 (by omega) (by omega) dX8_minutes_146 (by decide) (fun h_146 => ?_) (fun h_146 => ?_)
            · refine z_bipush dX8_minutes_154 (by decide) ?_
              refine z_top (minF h ord ((7 * k + 5) / 7) (yesW h ord t ((7 * k + 5) / 7)) ((7 * k + 5) % 7)) ?_ ?_
              · rw [show (7 * k + 5) / 7 = k by omega, show (7 * k + 5) % 7 = 5 by omega]
                show _ = if (if k = hN h then decide (quotaF h ≤ yesW h ord t k) else carB h (yesW h ord t k)) = true then (43 : Int) else 46
                first | (rw [if_pos (show k = hN h by omega), if_pos (decide_eq_true (by omega))]; done) | (rw [if_pos (show k = hN h by omega), if_neg (by rw [decide_eq_true_eq]; omega)]; done) | (rw [if_neg (show ¬ k = hN h by omega), if_pos (by rw [carB, decide_eq_true_eq]; omega)]; done) | (rw [if_neg (show ¬ k = hN h by omega), if_neg (by rw [carB, decide_eq_true_eq]; omega)]; done)
              refine z_cv (t8_says l hg (d := d_112) (m := 7 * k + 5) S5.2.2.1 (by omega)) mk_X8_says mi_X8_says ml_RX8_293 (by omega) (by decide) rfl rfl rfl rfl (Nat.le_of_ble_eq_true rfl) dX8_minutes_156 (fun r_156 d_156 q_156 => ?_)
              obtain ⟨rfl, hd156⟩ := q_156
              have S6 : SDm d0 d_156 h ord t (7 * k + 6) := by rw [hd156]; exact S5.up rfl
              show zV l x g mX8_minutes 7 _ _ _ [] _
              refine z_aload_n 0 dX8_minutes_159 rfl rfl ?_
              refine z_bipush dX8_minutes_160 (by decide) ?_
              refine z_cv (t8_says l hg (d := d_156) (m := 7 * k + 6) S6.2.2.1 (by omega)) mk_X8_says mi_X8_says ml_RX8_293 (by omega) (by decide) rfl rfl rfl rfl (Nat.le_of_ble_eq_true rfl) dX8_minutes_162 (fun r_162 d_162 q_162 => ?_)
              obtain ⟨rfl, hd162⟩ := q_162
              have S7 : SDm d0 d_162 h ord t (7 * (k + 1)) := by rw [hd162]; exact S6.up (by rw [show (7 * k + 6) / 7 = k by omega, show (7 * k + 6) % 7 = 6 by omega]; rfl)
              show zV l x g mX8_minutes 7 _ _ _ [] _
              refine z_iinc 3 (L' := [(0, _), (1, _), (2, _), (3, _), (4, _)]) dX8_minutes_165 (by decide) rfl rfl rfl ?_
              refine z_goto 27 dX8_minutes_168 (by decide) ?_
              refine z_sub (L' := [(0, _), (1, _), (2, _), (3, _)]) [0, 1, 2, 3] rfl ?_
              exact ih (k + 1) d_162 S7 (by omega) (by omega)
            · refine z_bipush dX8_minutes_149 (by decide) ?_
              refine z_goto 156 dX8_minutes_151 (by decide) ?_
              refine z_top (minF h ord ((7 * k + 5) / 7) (yesW h ord t ((7 * k + 5) / 7)) ((7 * k + 5) % 7)) ?_ ?_
              · rw [show (7 * k + 5) / 7 = k by omega, show (7 * k + 5) % 7 = 5 by omega]
                show _ = if (if k = hN h then decide (quotaF h ≤ yesW h ord t k) else carB h (yesW h ord t k)) = true then (43 : Int) else 46
                first | (rw [if_pos (show k = hN h by omega), if_pos (decide_eq_true (by omega))]; done) | (rw [if_pos (show k = hN h by omega), if_neg (by rw [decide_eq_true_eq]; omega)]; done) | (rw [if_neg (show ¬ k = hN h by omega), if_pos (by rw [carB, decide_eq_true_eq]; omega)]; done) | (rw [if_neg (show ¬ k = hN h by omega), if_neg (by rw [carB, decide_eq_true_eq]; omega)]; done)
              refine z_cv (t8_says l hg (d := d_112) (m := 7 * k + 5) S5.2.2.1 (by omega)) mk_X8_says mi_X8_says ml_RX8_293 (by omega) (by decide) rfl rfl rfl rfl (Nat.le_of_ble_eq_true rfl) dX8_minutes_156 (fun r_156 d_156 q_156 => ?_)
              obtain ⟨rfl, hd156⟩ := q_156
              have S6 : SDm d0 d_156 h ord t (7 * k + 6) := by rw [hd156]; exact S5.up rfl
              show zV l x g mX8_minutes 7 _ _ _ [] _
              refine z_aload_n 0 dX8_minutes_159 rfl rfl ?_
              refine z_bipush dX8_minutes_160 (by decide) ?_
              refine z_cv (t8_says l hg (d := d_156) (m := 7 * k + 6) S6.2.2.1 (by omega)) mk_X8_says mi_X8_says ml_RX8_293 (by omega) (by decide) rfl rfl rfl rfl (Nat.le_of_ble_eq_true rfl) dX8_minutes_162 (fun r_162 d_162 q_162 => ?_)
              obtain ⟨rfl, hd162⟩ := q_162
              have S7 : SDm d0 d_162 h ord t (7 * (k + 1)) := by rw [hd162]; exact S6.up (by rw [show (7 * k + 6) / 7 = k by omega, show (7 * k + 6) % 7 = 6 by omega]; rfl)
              show zV l x g mX8_minutes 7 _ _ _ [] _
              refine z_iinc 3 (L' := [(0, _), (1, _), (2, _), (3, _), (4, _)]) dX8_minutes_165 (by decide) rfl rfl rfl ?_
              refine z_goto 27 dX8_minutes_168 (by decide) ?_
              refine z_sub (L' := [(0, _), (1, _), (2, _), (3, _)]) [0, 1, 2, 3] rfl ?_
              exact ih (k + 1) d_162 S7 (by omega) (by omega)
          · refine z_iconst dX8_minutes_124 ?_
            refine z_iload 4 dX8_minutes_125 rfl ?_
            refine z_imul dX8_minutes_127 ?_
            refine z_aload_n 0 dX8_minutes_128 rfl rfl ?_
            refine z_getr fl_RX8_7 (by decide) rfl rfl dX8_minutes_129 ?_
            refine z_iconst dX8_minutes_132 ?_
            refine z_iald 3 (by decide) rfl rfl (by decide) (by decide) dX8_minutes_133 ?_
            rw [H5.1.2.2.2.1]
            refine z_icmp_le 154 (by omega) (by omega) dX8_minutes_134 (by decide) (fun h_134 => ?_) (fun h_134 => ?_)
            · refine z_bipush dX8_minutes_154 (by decide) ?_
              refine z_top (minF h ord ((7 * k + 5) / 7) (yesW h ord t ((7 * k + 5) / 7)) ((7 * k + 5) % 7)) ?_ ?_
              · rw [show (7 * k + 5) / 7 = k by omega, show (7 * k + 5) % 7 = 5 by omega]
                show _ = if (if k = hN h then decide (quotaF h ≤ yesW h ord t k) else carB h (yesW h ord t k)) = true then (43 : Int) else 46
                first | (rw [if_pos (show k = hN h by omega), if_pos (decide_eq_true (by omega))]; done) | (rw [if_pos (show k = hN h by omega), if_neg (by rw [decide_eq_true_eq]; omega)]; done) | (rw [if_neg (show ¬ k = hN h by omega), if_pos (by rw [carB, decide_eq_true_eq]; omega)]; done) | (rw [if_neg (show ¬ k = hN h by omega), if_neg (by rw [carB, decide_eq_true_eq]; omega)]; done)
              refine z_cv (t8_says l hg (d := d_112) (m := 7 * k + 5) S5.2.2.1 (by omega)) mk_X8_says mi_X8_says ml_RX8_293 (by omega) (by decide) rfl rfl rfl rfl (Nat.le_of_ble_eq_true rfl) dX8_minutes_156 (fun r_156 d_156 q_156 => ?_)
              obtain ⟨rfl, hd156⟩ := q_156
              have S6 : SDm d0 d_156 h ord t (7 * k + 6) := by rw [hd156]; exact S5.up rfl
              show zV l x g mX8_minutes 7 _ _ _ [] _
              refine z_aload_n 0 dX8_minutes_159 rfl rfl ?_
              refine z_bipush dX8_minutes_160 (by decide) ?_
              refine z_cv (t8_says l hg (d := d_156) (m := 7 * k + 6) S6.2.2.1 (by omega)) mk_X8_says mi_X8_says ml_RX8_293 (by omega) (by decide) rfl rfl rfl rfl (Nat.le_of_ble_eq_true rfl) dX8_minutes_162 (fun r_162 d_162 q_162 => ?_)
              obtain ⟨rfl, hd162⟩ := q_162
              have S7 : SDm d0 d_162 h ord t (7 * (k + 1)) := by rw [hd162]; exact S6.up (by rw [show (7 * k + 6) / 7 = k by omega, show (7 * k + 6) % 7 = 6 by omega]; rfl)
              show zV l x g mX8_minutes 7 _ _ _ [] _
              refine z_iinc 3 (L' := [(0, _), (1, _), (2, _), (3, _), (4, _)]) dX8_minutes_165 (by decide) rfl rfl rfl ?_
              refine z_goto 27 dX8_minutes_168 (by decide) ?_
              refine z_sub (L' := [(0, _), (1, _), (2, _), (3, _)]) [0, 1, 2, 3] rfl ?_
              exact ih (k + 1) d_162 S7 (by omega) (by omega)
            · refine z_goto 149 dX8_minutes_137 (by decide) ?_
              refine z_bipush dX8_minutes_149 (by decide) ?_
              refine z_goto 156 dX8_minutes_151 (by decide) ?_
              refine z_top (minF h ord ((7 * k + 5) / 7) (yesW h ord t ((7 * k + 5) / 7)) ((7 * k + 5) % 7)) ?_ ?_
              · rw [show (7 * k + 5) / 7 = k by omega, show (7 * k + 5) % 7 = 5 by omega]
                show _ = if (if k = hN h then decide (quotaF h ≤ yesW h ord t k) else carB h (yesW h ord t k)) = true then (43 : Int) else 46
                first | (rw [if_pos (show k = hN h by omega), if_pos (decide_eq_true (by omega))]; done) | (rw [if_pos (show k = hN h by omega), if_neg (by rw [decide_eq_true_eq]; omega)]; done) | (rw [if_neg (show ¬ k = hN h by omega), if_pos (by rw [carB, decide_eq_true_eq]; omega)]; done) | (rw [if_neg (show ¬ k = hN h by omega), if_neg (by rw [carB, decide_eq_true_eq]; omega)]; done)
              refine z_cv (t8_says l hg (d := d_112) (m := 7 * k + 5) S5.2.2.1 (by omega)) mk_X8_says mi_X8_says ml_RX8_293 (by omega) (by decide) rfl rfl rfl rfl (Nat.le_of_ble_eq_true rfl) dX8_minutes_156 (fun r_156 d_156 q_156 => ?_)
              obtain ⟨rfl, hd156⟩ := q_156
              have S6 : SDm d0 d_156 h ord t (7 * k + 6) := by rw [hd156]; exact S5.up rfl
              show zV l x g mX8_minutes 7 _ _ _ [] _
              refine z_aload_n 0 dX8_minutes_159 rfl rfl ?_
              refine z_bipush dX8_minutes_160 (by decide) ?_
              refine z_cv (t8_says l hg (d := d_156) (m := 7 * k + 6) S6.2.2.1 (by omega)) mk_X8_says mi_X8_says ml_RX8_293 (by omega) (by decide) rfl rfl rfl rfl (Nat.le_of_ble_eq_true rfl) dX8_minutes_162 (fun r_162 d_162 q_162 => ?_)
              obtain ⟨rfl, hd162⟩ := q_162
              have S7 : SDm d0 d_162 h ord t (7 * (k + 1)) := by rw [hd162]; exact S6.up (by rw [show (7 * k + 6) / 7 = k by omega, show (7 * k + 6) % 7 = 6 by omega]; rfl)
              show zV l x g mX8_minutes 7 _ _ _ [] _
              refine z_iinc 3 (L' := [(0, _), (1, _), (2, _), (3, _), (4, _)]) dX8_minutes_165 (by decide) rfl rfl rfl ?_
              refine z_goto 27 dX8_minutes_168 (by decide) ?_
              refine z_sub (L' := [(0, _), (1, _), (2, _), (3, _)]) [0, 1, 2, 3] rfl ?_
              exact ih (k + 1) d_162 S7 (by omega) (by omega)
        · refine z_bipush dX8_minutes_61 (by decide) ?_
          refine z_aload_n 0 dX8_minutes_63 rfl rfl ?_
          refine z_getr fl_RX8_70 (by decide) rfl rfl dX8_minutes_64 ?_
          refine z_iload_n 3 dX8_minutes_67 rfl rfl ?_
          refine z_iald k (by decide) rfl rfl (by omega) (by decide) dX8_minutes_68 ?_
          refine z_iadd dX8_minutes_69 ?_
          refine z_goto 75 dX8_minutes_70 (by decide) ?_
          have okk := ho.1 k (by omega)
          rw [show d1 58 k = (ord k : Nat) by rw [S.1 58 (by decide), R k (by rw [ordL_len]; omega), ordL_getD h ord (by omega)]]
          refine z_top (minF h ord (7 * k / 7) (yesW h ord t (7 * k / 7)) (7 * k % 7)) (by rw [show 7 * k / 7 = k by omega, show 7 * k % 7 = 0 by omega]; show _ = (if k = hN h then (112 : Int) else 48 + (ord k : Int)); rw [if_neg (by omega)]) ?_
          refine z_cv (t8_says l hg (d := d1) (m := 7 * k) S.2.2.1 (by omega)) mk_X8_says mi_X8_says ml_RX8_293 (by omega) (by decide) rfl rfl rfl rfl (Nat.le_of_ble_eq_true rfl) dX8_minutes_75 (fun r_75 d_75 q_75 => ?_)
          obtain ⟨rfl, hd75⟩ := q_75
          have S1 : SDm d0 d_75 h ord t (7 * k + 1) := by rw [hd75]; exact S.up rfl
          show zV l x g mX8_minutes 7 _ _ _ [] _
          refine z_aload_n 0 dX8_minutes_78 rfl rfl ?_
          refine z_bipush dX8_minutes_79 (by decide) ?_
          refine z_cv (t8_says l hg (d := d_75) (m := 7 * k + 1) S1.2.2.1 (by omega)) mk_X8_says mi_X8_says ml_RX8_293 (by omega) (by decide) rfl rfl rfl rfl (Nat.le_of_ble_eq_true rfl) dX8_minutes_81 (fun r_81 d_81 q_81 => ?_)
          obtain ⟨rfl, hd81⟩ := q_81
          have S2 : SDm d0 d_81 h ord t (7 * k + 2) := by rw [hd81]; exact S1.up (by rw [show (7 * k + 1) / 7 = k by omega, show (7 * k + 1) % 7 = 1 by omega]; rfl)
          show zV l x g mX8_minutes 7 _ _ _ [] _
          refine z_aload_n 0 dX8_minutes_84 rfl rfl ?_
          refine z_bipush dX8_minutes_85 (by decide) ?_
          refine z_iload 4 dX8_minutes_87 rfl ?_
          refine z_iadd dX8_minutes_89 ?_
          refine z_cv (t8_says l hg (d := d_81) (m := 7 * k + 2) S2.2.2.1 (by omega)) mk_X8_says mi_X8_says ml_RX8_293 (by omega) (by decide) rfl rfl rfl rfl (Nat.le_of_ble_eq_true rfl) dX8_minutes_90 (fun r_90 d_90 q_90 => ?_)
          obtain ⟨rfl, hd90⟩ := q_90
          have S3 : SDm d0 d_90 h ord t (7 * k + 3) := by rw [hd90]; exact S2.up (by rw [show (7 * k + 2) / 7 = k by omega, show (7 * k + 2) % 7 = 2 by omega]; rfl)
          show zV l x g mX8_minutes 7 _ _ _ [] _
          refine z_aload_n 0 dX8_minutes_93 rfl rfl ?_
          refine z_bipush dX8_minutes_94 (by decide) ?_
          refine z_cv (t8_says l hg (d := d_90) (m := 7 * k + 3) S3.2.2.1 (by omega)) mk_X8_says mi_X8_says ml_RX8_293 (by omega) (by decide) rfl rfl rfl rfl (Nat.le_of_ble_eq_true rfl) dX8_minutes_96 (fun r_96 d_96 q_96 => ?_)
          obtain ⟨rfl, hd96⟩ := q_96
          have S4 : SDm d0 d_96 h ord t (7 * k + 4) := by rw [hd96]; exact S3.up (by rw [show (7 * k + 3) / 7 = k by omega, show (7 * k + 3) % 7 = 3 by omega]; rfl)
          have H4 : HM d_96 h := HM.of H0 S4.1 (by decide)
          show zV l x g mX8_minutes 7 _ _ _ [] _
          refine z_aload_n 0 dX8_minutes_99 rfl rfl ?_
          refine z_bipush dX8_minutes_100 (by decide) ?_
          refine z_aload_n 0 dX8_minutes_102 rfl rfl ?_
          refine z_getr fl_RX8_7 (by decide) rfl rfl dX8_minutes_103 ?_
          refine z_iconst dX8_minutes_106 ?_
          refine z_iald 3 (by decide) rfl rfl (by decide) (by decide) dX8_minutes_107 ?_
          rw [H4.1.2.2.2.1]
          refine z_iadd dX8_minutes_108 ?_
          refine z_iload 4 dX8_minutes_109 rfl ?_
          refine z_isub dX8_minutes_111 ?_
          refine z_cv (t8_says l hg (d := d_96) (m := 7 * k + 4) S4.2.2.1 (by omega)) mk_X8_says mi_X8_says ml_RX8_293 (by omega) (by decide) rfl rfl rfl rfl (Nat.le_of_ble_eq_true rfl) dX8_minutes_112 (fun r_112 d_112 q_112 => ?_)
          obtain ⟨rfl, hd112⟩ := q_112
          have S5 : SDm d0 d_112 h ord t (7 * k + 5) := by rw [hd112]; exact S4.up (by rw [show (7 * k + 4) / 7 = k by omega, show (7 * k + 4) % 7 = 4 by omega]; rfl)
          have H5 : HM d_112 h := HM.of H0 S5.1 (by decide)
          have g37 : d_112 37 37 = (hN h : Nat) := by rw [S5.2.1 37 (by decide)]; exact n37
          show zV l x g mX8_minutes 7 _ _ _ [] _
          refine z_aload_n 0 dX8_minutes_115 rfl rfl ?_
          refine z_iload_n 3 dX8_minutes_116 rfl rfl ?_
          refine z_aload_n 0 dX8_minutes_117 rfl rfl ?_
          refine z_geti fl_RX8_253 (by decide) rfl rfl dX8_minutes_118 ?_
          rw [g37]
          refine z_icmp_ge 140 (by omega) (by omega) dX8_minutes_121 (by decide) (fun h_121 => ?_) (fun h_121 => ?_)
          · refine z_iload 4 dX8_minutes_140 rfl ?_
            refine z_aload_n 0 dX8_minutes_142 rfl rfl ?_
            refine z_cv (t8_quota l hg w H5) mk_X8_quota mi_X8_quota ml_RX8_262 (by omega) (by decide) rfl rfl rfl rfl (Nat.le_of_ble_eq_true rfl) dX8_minutes_143 (zpure ?_)
            refine z_icmp_lt 154 (by omega) (by omega) dX8_minutes_146 (by decide) (fun h_146 => ?_) (fun h_146 => ?_)
            · refine z_bipush dX8_minutes_154 (by decide) ?_
              refine z_top (minF h ord ((7 * k + 5) / 7) (yesW h ord t ((7 * k + 5) / 7)) ((7 * k + 5) % 7)) ?_ ?_
              · rw [show (7 * k + 5) / 7 = k by omega, show (7 * k + 5) % 7 = 5 by omega]
                show _ = if (if k = hN h then decide (quotaF h ≤ yesW h ord t k) else carB h (yesW h ord t k)) = true then (43 : Int) else 46
                first | (rw [if_pos (show k = hN h by omega), if_pos (decide_eq_true (by omega))]; done) | (rw [if_pos (show k = hN h by omega), if_neg (by rw [decide_eq_true_eq]; omega)]; done) | (rw [if_neg (show ¬ k = hN h by omega), if_pos (by rw [carB, decide_eq_true_eq]; omega)]; done) | (rw [if_neg (show ¬ k = hN h by omega), if_neg (by rw [carB, decide_eq_true_eq]; omega)]; done)
              refine z_cv (t8_says l hg (d := d_112) (m := 7 * k + 5) S5.2.2.1 (by omega)) mk_X8_says mi_X8_says ml_RX8_293 (by omega) (by decide) rfl rfl rfl rfl (Nat.le_of_ble_eq_true rfl) dX8_minutes_156 (fun r_156 d_156 q_156 => ?_)
              obtain ⟨rfl, hd156⟩ := q_156
              have S6 : SDm d0 d_156 h ord t (7 * k + 6) := by rw [hd156]; exact S5.up rfl
              show zV l x g mX8_minutes 7 _ _ _ [] _
              refine z_aload_n 0 dX8_minutes_159 rfl rfl ?_
              refine z_bipush dX8_minutes_160 (by decide) ?_
              refine z_cv (t8_says l hg (d := d_156) (m := 7 * k + 6) S6.2.2.1 (by omega)) mk_X8_says mi_X8_says ml_RX8_293 (by omega) (by decide) rfl rfl rfl rfl (Nat.le_of_ble_eq_true rfl) dX8_minutes_162 (fun r_162 d_162 q_162 => ?_)
              obtain ⟨rfl, hd162⟩ := q_162
              have S7 : SDm d0 d_162 h ord t (7 * (k + 1)) := by rw [hd162]; exact S6.up (by rw [show (7 * k + 6) / 7 = k by omega, show (7 * k + 6) % 7 = 6 by omega]; rfl)
              show zV l x g mX8_minutes 7 _ _ _ [] _
              refine z_iinc 3 (L' := [(0, _), (1, _), (2, _), (3, _), (4, _)]) dX8_minutes_165 (by decide) rfl rfl rfl ?_
              refine z_goto 27 dX8_minutes_168 (by decide) ?_
              refine z_sub (L' := [(0, _), (1, _), (2, _), (3, _)]) [0, 1, 2, 3] rfl ?_
              exact ih (k + 1) d_162 S7 (by omega) (by omega)
            · refine z_bipush dX8_minutes_149 (by decide) ?_
              refine z_goto 156 dX8_minutes_151 (by decide) ?_
              refine z_top (minF h ord ((7 * k + 5) / 7) (yesW h ord t ((7 * k + 5) / 7)) ((7 * k + 5) % 7)) ?_ ?_
              · rw [show (7 * k + 5) / 7 = k by omega, show (7 * k + 5) % 7 = 5 by omega]
                show _ = if (if k = hN h then decide (quotaF h ≤ yesW h ord t k) else carB h (yesW h ord t k)) = true then (43 : Int) else 46
                first | (rw [if_pos (show k = hN h by omega), if_pos (decide_eq_true (by omega))]; done) | (rw [if_pos (show k = hN h by omega), if_neg (by rw [decide_eq_true_eq]; omega)]; done) | (rw [if_neg (show ¬ k = hN h by omega), if_pos (by rw [carB, decide_eq_true_eq]; omega)]; done) | (rw [if_neg (show ¬ k = hN h by omega), if_neg (by rw [carB, decide_eq_true_eq]; omega)]; done)
              refine z_cv (t8_says l hg (d := d_112) (m := 7 * k + 5) S5.2.2.1 (by omega)) mk_X8_says mi_X8_says ml_RX8_293 (by omega) (by decide) rfl rfl rfl rfl (Nat.le_of_ble_eq_true rfl) dX8_minutes_156 (fun r_156 d_156 q_156 => ?_)
              obtain ⟨rfl, hd156⟩ := q_156
              have S6 : SDm d0 d_156 h ord t (7 * k + 6) := by rw [hd156]; exact S5.up rfl
              show zV l x g mX8_minutes 7 _ _ _ [] _
              refine z_aload_n 0 dX8_minutes_159 rfl rfl ?_
              refine z_bipush dX8_minutes_160 (by decide) ?_
              refine z_cv (t8_says l hg (d := d_156) (m := 7 * k + 6) S6.2.2.1 (by omega)) mk_X8_says mi_X8_says ml_RX8_293 (by omega) (by decide) rfl rfl rfl rfl (Nat.le_of_ble_eq_true rfl) dX8_minutes_162 (fun r_162 d_162 q_162 => ?_)
              obtain ⟨rfl, hd162⟩ := q_162
              have S7 : SDm d0 d_162 h ord t (7 * (k + 1)) := by rw [hd162]; exact S6.up (by rw [show (7 * k + 6) / 7 = k by omega, show (7 * k + 6) % 7 = 6 by omega]; rfl)
              show zV l x g mX8_minutes 7 _ _ _ [] _
              refine z_iinc 3 (L' := [(0, _), (1, _), (2, _), (3, _), (4, _)]) dX8_minutes_165 (by decide) rfl rfl rfl ?_
              refine z_goto 27 dX8_minutes_168 (by decide) ?_
              refine z_sub (L' := [(0, _), (1, _), (2, _), (3, _)]) [0, 1, 2, 3] rfl ?_
              exact ih (k + 1) d_162 S7 (by omega) (by omega)
          · refine z_iconst dX8_minutes_124 ?_
            refine z_iload 4 dX8_minutes_125 rfl ?_
            refine z_imul dX8_minutes_127 ?_
            refine z_aload_n 0 dX8_minutes_128 rfl rfl ?_
            refine z_getr fl_RX8_7 (by decide) rfl rfl dX8_minutes_129 ?_
            refine z_iconst dX8_minutes_132 ?_
            refine z_iald 3 (by decide) rfl rfl (by decide) (by decide) dX8_minutes_133 ?_
            rw [H5.1.2.2.2.1]
            refine z_icmp_le 154 (by omega) (by omega) dX8_minutes_134 (by decide) (fun h_134 => ?_) (fun h_134 => ?_)
            · refine z_bipush dX8_minutes_154 (by decide) ?_
              refine z_top (minF h ord ((7 * k + 5) / 7) (yesW h ord t ((7 * k + 5) / 7)) ((7 * k + 5) % 7)) ?_ ?_
              · rw [show (7 * k + 5) / 7 = k by omega, show (7 * k + 5) % 7 = 5 by omega]
                show _ = if (if k = hN h then decide (quotaF h ≤ yesW h ord t k) else carB h (yesW h ord t k)) = true then (43 : Int) else 46
                first | (rw [if_pos (show k = hN h by omega), if_pos (decide_eq_true (by omega))]; done) | (rw [if_pos (show k = hN h by omega), if_neg (by rw [decide_eq_true_eq]; omega)]; done) | (rw [if_neg (show ¬ k = hN h by omega), if_pos (by rw [carB, decide_eq_true_eq]; omega)]; done) | (rw [if_neg (show ¬ k = hN h by omega), if_neg (by rw [carB, decide_eq_true_eq]; omega)]; done)
              refine z_cv (t8_says l hg (d := d_112) (m := 7 * k + 5) S5.2.2.1 (by omega)) mk_X8_says mi_X8_says ml_RX8_293 (by omega) (by decide) rfl rfl rfl rfl (Nat.le_of_ble_eq_true rfl) dX8_minutes_156 (fun r_156 d_156 q_156 => ?_)
              obtain ⟨rfl, hd156⟩ := q_156
              have S6 : SDm d0 d_156 h ord t (7 * k + 6) := by rw [hd156]; exact S5.up rfl
              show zV l x g mX8_minutes 7 _ _ _ [] _
              refine z_aload_n 0 dX8_minutes_159 rfl rfl ?_
              refine z_bipush dX8_minutes_160 (by decide) ?_
              refine z_cv (t8_says l hg (d := d_156) (m := 7 * k + 6) S6.2.2.1 (by omega)) mk_X8_says mi_X8_says ml_RX8_293 (by omega) (by decide) rfl rfl rfl rfl (Nat.le_of_ble_eq_true rfl) dX8_minutes_162 (fun r_162 d_162 q_162 => ?_)
              obtain ⟨rfl, hd162⟩ := q_162
              have S7 : SDm d0 d_162 h ord t (7 * (k + 1)) := by rw [hd162]; exact S6.up (by rw [show (7 * k + 6) / 7 = k by omega, show (7 * k + 6) % 7 = 6 by omega]; rfl)
              show zV l x g mX8_minutes 7 _ _ _ [] _
              refine z_iinc 3 (L' := [(0, _), (1, _), (2, _), (3, _), (4, _)]) dX8_minutes_165 (by decide) rfl rfl rfl ?_
              refine z_goto 27 dX8_minutes_168 (by decide) ?_
              refine z_sub (L' := [(0, _), (1, _), (2, _), (3, _)]) [0, 1, 2, 3] rfl ?_
              exact ih (k + 1) d_162 S7 (by omega) (by omega)
            · refine z_goto 149 dX8_minutes_137 (by decide) ?_
              refine z_bipush dX8_minutes_149 (by decide) ?_
              refine z_goto 156 dX8_minutes_151 (by decide) ?_
              refine z_top (minF h ord ((7 * k + 5) / 7) (yesW h ord t ((7 * k + 5) / 7)) ((7 * k + 5) % 7)) ?_ ?_
              · rw [show (7 * k + 5) / 7 = k by omega, show (7 * k + 5) % 7 = 5 by omega]
                show _ = if (if k = hN h then decide (quotaF h ≤ yesW h ord t k) else carB h (yesW h ord t k)) = true then (43 : Int) else 46
                first | (rw [if_pos (show k = hN h by omega), if_pos (decide_eq_true (by omega))]; done) | (rw [if_pos (show k = hN h by omega), if_neg (by rw [decide_eq_true_eq]; omega)]; done) | (rw [if_neg (show ¬ k = hN h by omega), if_pos (by rw [carB, decide_eq_true_eq]; omega)]; done) | (rw [if_neg (show ¬ k = hN h by omega), if_neg (by rw [carB, decide_eq_true_eq]; omega)]; done)
              refine z_cv (t8_says l hg (d := d_112) (m := 7 * k + 5) S5.2.2.1 (by omega)) mk_X8_says mi_X8_says ml_RX8_293 (by omega) (by decide) rfl rfl rfl rfl (Nat.le_of_ble_eq_true rfl) dX8_minutes_156 (fun r_156 d_156 q_156 => ?_)
              obtain ⟨rfl, hd156⟩ := q_156
              have S6 : SDm d0 d_156 h ord t (7 * k + 6) := by rw [hd156]; exact S5.up rfl
              show zV l x g mX8_minutes 7 _ _ _ [] _
              refine z_aload_n 0 dX8_minutes_159 rfl rfl ?_
              refine z_bipush dX8_minutes_160 (by decide) ?_
              refine z_cv (t8_says l hg (d := d_156) (m := 7 * k + 6) S6.2.2.1 (by omega)) mk_X8_says mi_X8_says ml_RX8_293 (by omega) (by decide) rfl rfl rfl rfl (Nat.le_of_ble_eq_true rfl) dX8_minutes_162 (fun r_162 d_162 q_162 => ?_)
              obtain ⟨rfl, hd162⟩ := q_162
              have S7 : SDm d0 d_162 h ord t (7 * (k + 1)) := by rw [hd162]; exact S6.up (by rw [show (7 * k + 6) / 7 = k by omega, show (7 * k + 6) % 7 = 6 by omega]; rfl)
              show zV l x g mX8_minutes 7 _ _ _ [] _
              refine z_iinc 3 (L' := [(0, _), (1, _), (2, _), (3, _), (4, _)]) dX8_minutes_165 (by decide) rfl rfl rfl ?_
              refine z_goto 27 dX8_minutes_168 (by decide) ?_
              refine z_sub (L' := [(0, _), (1, _), (2, _), (3, _)]) [0, 1, 2, 3] rfl ?_
              exact ih (k + 1) d_162 S7 (by omega) (by omega)
  refine zC_of (L := [(0, _), (1, _), (2, _)]) mk_X8_minutes (Nat.le_of_ble_eq_true rfl) hg rfl (fun x => ?_)
  refine z_aload_n 0 dX8_minutes_0 rfl rfl ?_
  refine z_iconst dX8_minutes_1 ?_
  refine z_puti fp_RX8_95 (by decide) rfl rfl dX8_minutes_2 ?_
  refine z_aload_n 0 dX8_minutes_5 rfl rfl ?_
  refine z_iload_n 1 dX8_minutes_6 rfl rfl ?_
  refine z_cv (t8_isSet l hg w H ha) mk_X8_isSetOfVoters mi_X8_isSetOfVoters ml_RX8_281 (by omega) (by decide) rfl rfl rfl rfl (Nat.le_of_ble_eq_true rfl) dX8_minutes_7 (zpure ?_)
  refine z_if_ne_b 15 dX8_minutes_10 (by decide) (fun h_10 => ?_) (fun h_10 => ?_)
  · have h10 := of_decide_eq_true h_10
    have hat : a = ((a.toNat : Nat) : Int) := by omega
    refine z_aload_n 0 dX8_minutes_15 rfl rfl ?_
    refine z_iload_n 1 dX8_minutes_16 rfl rfl ?_
    refine z_top ((a.toNat : Nat) : Int) hat ?_
    refine z_cv (t8_asks l hg w H O ho (t := a.toNat)) mk_X8_asks mi_X8_asks ml_RX8_284 (by omega) (by decide) rfl rfl rfl rfl (Nat.le_of_ble_eq_true rfl) dX8_minutes_17 (zvoid fun d_17 q_17 => ?_)
    obtain ⟨s1, s2, s3, s4, s5, sK⟩ := q_17
    refine z_aload_n 0 dX8_minutes_20 rfl rfl ?_
    refine z_iconst dX8_minutes_21 ?_
    refine z_puti fp_RX8_290 (by decide) rfl rfl dX8_minutes_22 ?_
    refine z_iconst dX8_minutes_25 ?_
    refine z_istore_n (L' := [(0, _), (1, _), (2, _), (3, _)]) dX8_minutes_26 rfl (by decide) rfl rfl ?_
    have aF : zF [37] d_17 (zu d_17 37 39 0) := zF.rf.up (by decide)
    exact key x a.toNat d_17 hat h_10 s1 s2 s3 s4 s5 (hN h + 2) 0 _ ⟨zF.mono aF (by decide), fun i hi => by rw [zu_row, if_neg hi], zu_at _ _ _ _, fun i hi => absurd hi (by omega)⟩ (by omega) (by omega)
  · refine z_iconst dX8_minutes_13 ?_
    exact z_iret rfl dX8_minutes_14 (anM.rf (MF.ra 0) (I.ra 0) (by rw [minS, if_neg (fun z => by rw [h_10] at z; cases z.1)]))
