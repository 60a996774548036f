/-! the reference reads: amendments, voters, joints, statements, texts -/
theorem lcmp_in (a b : Int) : zin (if a < b then -1 else if a = b then 0 else 1) := by
  split
  · decide
  · split <;> decide
theorem lcmp_0 {a b : Int} : (if a < b then (-1 : Int) else if a = b then 0 else 1) = 0 ↔ a = b := by
  split
  · rename_i h; exact ⟨fun z => (by cases z), fun z => (by omega)⟩
  · split
    · rename_i h; exact ⟨fun _ => h, fun _ => rfl⟩
    · rename_i h; exact ⟨fun z => (by cases z), fun z => absurd z h⟩
theorem wd_inL {tp : Nat → Nat} {tl p : Nat} (hk : kd tp tl p = 1) : zinL (wdN tp (sk tp tl p) (en tp tl p - sk tp tl p)) := by
  obtain ⟨h1, h2⟩ := kd1_en hk
  have := wdN_in (tp := tp) (a := sk tp tl p) (en tp tl p - sk tp tl p) (fun i hi => (rn_all (tl := tl) (lo := 97) (hi := 122) (p := sk tp tl p) (by omega) (by rw [← h2]; omega)).2)
  exact ⟨by omega, by have h3 := this.2.1; have : (27 : Int) ^ 7 = 10460353203 := by decide
                      omega⟩
theorem HMg.ofz {a s w j : Nat} {d d' : zD} {h : Hl} (H : HMg a s w j d h) (e : ∀ p, (p = a ∨ p = w ∨ (s ≤ p ∧ p ≤ s + 3) ∨ (j ≤ p ∧ p ≤ j + 2)) → d' p = d p) : HMg a s w j d' h := H.of e
theorem t8_readOf (l : Launch) {g : zG} (hg : zAmOk g) {d : zD} {tp : Nat → Nat} {tl q : Nat} {h : Hl} {b : Bool} (T : TM d tp tl) (C : CU d tp tl q) (H : HN d h b) : zC l g mX8_readOf 3 [zr g 37] d (PM d (spOf tp tl h q) (fun v d' => MR [23, 25, 26, 28, 29, 31, 32] d d' ∧ CU d' tp tl v.1 ∧ d' 37 31 = (v.2.1 : Int) ∧ (v.2.1 ≠ 2 → d' 37 32 = v.2.2) ∧ (v.2.1 = 2 → v.2.2 = hS h))) := by
  have hp := C.1
  have hs := sk_le (tp := tp) hp
  have he := en_le (tp := tp) hp
  have t2 := T.2.1
  have w3 := H.2.2.2.2.1
  have w6 := H.2.2.2.2.2.2.2.1
  have w7 := H.2.2.2.2.2.2.2.2.1
  obtain ⟨⟨h0, h1, h2, h3, h4, h5⟩, q2, q3, q4⟩ := id H.1
  refine zC_of (L := [(0, _)]) mk_X8_readOf (Nat.le_of_ble_eq_true rfl) hg rfl (fun x => ?_)
  refine z_aload_n 0 dX8_readOf_0 rfl rfl ?_
  refine z_iconst dX8_readOf_1 ?_
  refine z_puti fp_RX8_166 (by decide) rfl rfl dX8_readOf_2 ?_
  refine z_aload_n 0 dX8_readOf_5 rfl rfl ?_
  have F0 : MR [23, 25, 26, 28, 29, 31, 32] d (zu d 37 32 (-1)) := MR.rf.up (by decide)
  refine z_cv (t8_isWord l hg ((F0.MPF (by decide)).TM T) (C.of (by rw [zu_row, if_neg (by decide)]))) mk_X8_isWord mi_X8_isWord ml_RX8_143 (by omega) (by decide) rfl rfl rfl rfl (Nat.le_of_ble_eq_true rfl) dX8_readOf_6 (fun r_6 d_6 q_6 => ?_)
  obtain ⟨rfl, f1, f2⟩ := q_6
  have F1 : MR [23, 25, 26, 28, 29, 31, 32] d d_6 := F0.tr (f1.mono (by decide))
  have T1 : TM d_6 tp tl := (F1.MPF (by decide)).TM T
  have e39 : d_6 39 = d 39 := F1.1 39 (by decide)
  have e44 : d_6 44 = d 44 := F1.1 44 (by decide)
  have e32 : d_6 37 32 = -1 := by rw [f1.2 32 (by decide), zu_at]
  show zV l x g mX8_readOf 3 _ _ _ [_] _
  refine z_if_eq_b 85 dX8_readOf_9 (by decide) (fun h_9 => ?_) (fun h_9 => ?_)
  · have hk := of_decide_eq_false h_9
    have hw0 : isW tp tl q 0 = false := by rw [← Bool.not_eq_true]; exact fun z => hk (isW_kd z)
    have hw2 : isW tp tl q 2 = false := by rw [← Bool.not_eq_true]; exact fun z => hk (isW_kd z)
    refine z_aload_n 0 dX8_readOf_85 rfl rfl ?_
    refine z_geti fl_RX8_110 (by decide) rfl rfl dX8_readOf_86 ?_
    rw [f2]
    refine z_istore_n (L' := [(0, _), (1, _)]) dX8_readOf_89 rfl (by decide) rfl rfl ?_
    refine z_aload_n 0 dX8_readOf_90 rfl rfl ?_
    refine z_iconst dX8_readOf_91 ?_
    refine z_aload_n 0 dX8_readOf_92 rfl rfl ?_
    refine z_getr fl_RX8_13 (by decide) rfl rfl dX8_readOf_93 ?_
    refine z_iconst dX8_readOf_96 ?_
    refine z_iald 1 (by decide) rfl rfl (by decide) (by decide) dX8_readOf_97 ?_
    refine z_iconst dX8_readOf_98 ?_
    rw [e39, h1]
    refine z_isub dX8_readOf_99 ?_
    refine z_cv (t8_readNumber l hg T1 (CU.sk hp f2) (lo := 0) (hi := (hN h : Int) - 1) (by decide) (by omega)) mk_X8_readNumber mi_X8_readNumber ml_RX8_151 (by omega) (by decide) rfl rfl rfl rfl (Nat.le_of_ble_eq_true rfl) dX8_readOf_100 (z_pm (fun f_100 d_100 e_100 a_100 b_100 => ?_) (fun v_100 d_100 e_100 a_100 b_100 c_100 => ?_))
    · have hsp : spOf tp tl h q = .inl f_100 := by
        rw [spOf, if_neg (by rw [hw0]; decide), if_neg (by rw [hw2]; decide)]
        unfold spNum at e_100
        split at e_100
        · rename_i c; cases e_100; rw [if_neg c]
        · rename_i c
          rw [if_pos (Classical.byContradiction c)]
          split at e_100
          · cases e_100
          · rename_i c2; cases e_100; rw [if_neg (fun z => c2 (by omega))]
      refine z_if_ne 108 (by decide) dX8_readOf_103 (by decide) (fun h_103 => absurd h_103 (by decide)) (fun h_103 => ?_)
      refine z_iconst dX8_readOf_106 ?_
      exact z_bret (b := false) rfl dX8_readOf_107 (PM.f hsp ((F1.MPF (by decide)).tr a_100) b_100)
    · have hsp : kd tp tl q = 2 ∧ nv tp tl q < hN h ∧ v_100 = en tp tl q := by
        unfold spNum at e_100
        split at e_100
        · cases e_100
        · rename_i c
          split at e_100
          · rename_i c2; cases e_100; exact ⟨Classical.byContradiction c, by omega, rfl⟩
          · cases e_100
      obtain ⟨c1, c2, c3⟩ := c_100
      obtain ⟨hk2, hlt, hv⟩ := hsp
      have F2 : MR [23, 25, 26, 28, 29, 31, 32] d d_100 := F1.tr (c1.mono (by decide))
      obtain ⟨m1, m2, m3, m4⟩ := q2 (nv tp tl q) hlt
      have ws := (w7 (nv tp tl q) hlt).1
      refine z_if_ne 108 (by decide) dX8_readOf_103 (by decide) (fun h_103 => ?_) (fun h_103 => absurd h_103 (by decide))
      refine z_aload_n 0 dX8_readOf_108 rfl rfl ?_
      refine z_iconst dX8_readOf_109 ?_
      refine z_puti fp_RX8_171 (by decide) rfl rfl dX8_readOf_110 ?_
      refine z_aload_n 0 dX8_readOf_113 rfl rfl ?_
      refine z_aload_n 0 dX8_readOf_114 rfl rfl ?_
      refine z_geti fl_RX8_140 (by decide) rfl rfl dX8_readOf_115 ?_
      rw [zu_row, if_neg (by decide), c3]
      refine z_puti fp_RX8_166 (by decide) rfl rfl dX8_readOf_118 ?_
      generalize hd1 : zu (zu d_100 37 31 3) 37 32 (nv tp tl q : Int) = d1
      have F3 : MR [23, 25, 26, 28, 29, 31, 32] d d1 := by rw [← hd1]; exact (F2.up (by decide)).up (by decide)
      have g25 : d1 37 25 = (nv tp tl q : Int) := by rw [← hd1]; simp [zu, c3]
      have g31 : d1 37 31 = 3 := by rw [← hd1]; simp [zu]
      have g32 : d1 37 32 = (nv tp tl q : Int) := by rw [← hd1]; simp [zu]
      have g23 : d1 37 23 = d_100 37 23 := by rw [← hd1]; simp [zu]
      have g24 : d1 37 24 = d 37 24 := F3.2 24 (by decide)
      refine z_aload_n 0 dX8_readOf_121 rfl rfl ?_
      refine z_getr fl_RX8_28 (by decide) rfl rfl dX8_readOf_122 ?_
      refine z_aload_n 0 dX8_readOf_125 rfl rfl ?_
      refine z_geti fl_RX8_140 (by decide) rfl rfl dX8_readOf_126 ?_
      rw [g25]
      refine z_iald (nv tp tl q) (by decide) rfl rfl (by omega) (by decide) dX8_readOf_129 ?_
      rw [F3.1 44 (by decide), m1]
      refine z_if_eq 155 (by omega) dX8_readOf_130 (by decide) (fun h_130 => ?_) (fun h_130 => ?_)
      · refine z_iconst dX8_readOf_155 ?_
        refine z_goto 160 dX8_readOf_156 (by decide) ?_
        exact z_bret (b := true) rfl dX8_readOf_160 (PM.t (v := (en tp tl q, 3, (nv tp tl q : Int))) (by rw [spOf, if_neg (by rw [hw0]; decide), if_neg (by rw [hw2]; decide), if_pos hk2, if_pos (by omega)]) (F3.MPF (by decide)) g24 ⟨F3, by rw [← hv]; exact c2.of g23, g31, fun _ => g32, fun z => absurd (show (3 : Nat) = 2 from z) (by decide)⟩)
      · refine z_aload_n 0 dX8_readOf_133 rfl rfl ?_
        refine z_getr fl_RX8_28 (by decide) rfl rfl dX8_readOf_134 ?_
        refine z_aload_n 0 dX8_readOf_137 rfl rfl ?_
        refine z_geti fl_RX8_140 (by decide) rfl rfl dX8_readOf_138 ?_
        rw [g25]
        refine z_iald (nv tp tl q) (by decide) rfl rfl (by omega) (by decide) dX8_readOf_141 ?_
        refine z_iconst dX8_readOf_142 ?_
        rw [F3.1 44 (by decide), m1]
        refine z_icmp_eq 155 (by omega) (by omega) dX8_readOf_143 (by decide) (fun h_143 => ?_) (fun h_143 => ?_)
        · refine z_iconst dX8_readOf_155 ?_
          refine z_goto 160 dX8_readOf_156 (by decide) ?_
          exact z_bret (b := true) rfl dX8_readOf_160 (PM.t (v := (en tp tl q, 3, (nv tp tl q : Int))) (by rw [spOf, if_neg (by rw [hw0]; decide), if_neg (by rw [hw2]; decide), if_pos hk2, if_pos (by omega)]) (F3.MPF (by decide)) g24 ⟨F3, by rw [← hv]; exact c2.of g23, g31, fun _ => g32, fun z => absurd (show (3 : Nat) = 2 from z) (by decide)⟩)
        · refine z_aload_n 0 dX8_readOf_146 rfl rfl ?_
          refine z_iconst dX8_readOf_147 ?_
          refine z_iload_n 1 dX8_readOf_148 rfl rfl ?_
          refine z_cv (t8_fails l hg d1 (k := 2) (s := sk tp tl q)) mk_X8_fails mi_X8_fails ml_RX8_137 (by omega) (by decide) rfl rfl rfl rfl (Nat.le_of_ble_eq_true rfl) dX8_readOf_149 (fun r_149 d_149 q_149 => ?_)
          obtain ⟨rfl, rfl⟩ := q_149
          show zV l x g mX8_readOf 3 _ _ _ [_] _
          refine z_if_eq_b 159 dX8_readOf_152 (by decide) (fun h_152 => ?_) (fun h_152 => absurd h_152 (by decide))
          refine z_iconst dX8_readOf_159 ?_
          exact z_bret (b := false) rfl dX8_readOf_160 (PM.f (by rw [spOf, if_neg (by rw [hw0]; decide), if_neg (by rw [hw2]; decide), if_pos hk2, if_neg (by omega)]) ((F3.MPF (by decide)).up (by decide)) (zu_at _ _ _ _))
  · have hk := of_decide_eq_true h_9
    have hwd := wd_inL hk
    refine z_aload_n 0 dX8_readOf_12 rfl rfl ?_
    refine z_cv (t8_readWord l hg T1 hp hk f2) mk_X8_readWord mi_X8_readWord ml_RX8_147 (by omega) (by decide) rfl rfl rfl rfl (Nat.le_of_ble_eq_true rfl) dX8_readOf_13 (fun r_13 d_13 q_13 => ?_)
    obtain ⟨rfl, c1, c2, c3, c4, c5⟩ := q_13
    have F2 : MR [23, 25, 26, 28, 29, 31, 32] d d_13 := F1.tr (c1.mono (by decide))
    show zV l x g mX8_readOf 3 _ _ _ [_] _
    refine z_lstore_n (L' := [(0, _), (1, _)]) dX8_readOf_16 rfl (by decide) rfl ?_
    refine z_lload_n 1 dX8_readOf_17 rfl rfl ?_
    refine z_ldc2 (v := 46263) wk_0 dX8_readOf_18 ?_
    refine z_lcmp hwd (by decide) dX8_readOf_21 ?_
    refine z_if_ne 32 (lcmp_in _ _) dX8_readOf_22 (by decide) (fun h_22 => ?_) (fun h_22 => ?_)
    · have hw0 : isW tp tl q 0 = false := by rw [← Bool.not_eq_true]; exact fun z => h_22 (lcmp_0.mpr ((isW_0 hk).mpr z))
      refine z_aload_n 0 dX8_readOf_32 rfl rfl ?_
      refine z_iconst dX8_readOf_33 ?_
      refine z_puti fp_RX8_171 (by decide) rfl rfl dX8_readOf_34 ?_
      refine z_lload_n 1 dX8_readOf_37 rfl rfl ?_
      refine z_ldc2 (v := 14420) wk_2 dX8_readOf_38 ?_
      refine z_lcmp hwd (by decide) dX8_readOf_41 ?_
      refine z_if_ne 75 (lcmp_in _ _) dX8_readOf_42 (by decide) (fun h_42 => ?_) (fun h_42 => ?_)
      · have hw2 : isW tp tl q 2 = false := by rw [← Bool.not_eq_true]; exact fun z => h_42 (lcmp_0.mpr ((isW_2 hk).mpr z))
        refine z_aload_n 0 dX8_readOf_75 rfl rfl ?_
        refine z_iconst dX8_readOf_76 ?_
        refine z_aload_n 0 dX8_readOf_77 rfl rfl ?_
        refine z_geti fl_RX8_126 (by decide) rfl rfl dX8_readOf_78 ?_
        rw [zu_row, if_neg (by decide), c3]
        refine z_cv (t8_fails l hg _ (k := 1) (s := sk tp tl q)) mk_X8_fails mi_X8_fails ml_RX8_137 (by omega) (by decide) rfl rfl rfl rfl (Nat.le_of_ble_eq_true rfl) dX8_readOf_81 (fun r_81 d_81 q_81 => ?_)
        obtain ⟨rfl, rfl⟩ := q_81
        show zV l x g mX8_readOf 3 _ _ _ [_] _
        exact z_bret rfl dX8_readOf_84 (PM.f (by rw [spOf, if_neg (by rw [hw0]; decide), if_neg (by rw [hw2]; decide), if_neg (by omega)]) (((F2.MPF (by decide)).up (by decide)).up (by decide)) (zu_at _ _ _ _))
      · have hw2 := (isW_2 hk).mp (lcmp_0.mp h_42)
        refine z_aload_n 0 dX8_readOf_45 rfl rfl ?_
        refine z_getr fl_RX8_13 (by decide) rfl rfl dX8_readOf_46 ?_
        refine z_iconst dX8_readOf_49 ?_
        refine z_iald 2 (by decide) rfl rfl (by decide) (by decide) dX8_readOf_50 ?_
        refine z_iconst dX8_readOf_51 ?_
        rw [zu_ne (by decide), F2.1 39 (by decide), h2]
        refine z_icmp_ne 67 (by omega) (by omega) dX8_readOf_52 (by decide) (fun h_52 => ?_) (fun h_52 => ?_)
        · refine z_iconst dX8_readOf_67 ?_
          refine z_goto 84 dX8_readOf_68 (by decide) ?_
          exact z_bret (b := true) rfl dX8_readOf_84 (PM.t (v := (en tp tl q, 2, hS h)) (by rw [spOf, if_neg (by rw [hw0]; decide), if_pos hw2, if_neg (by omega)]) ((F2.MPF (by decide)).up (by decide)) (by rw [zu_row, if_neg (by decide), F2.2 24 (by decide)]) ⟨F2.up (by decide), CU.at he.2 (by rw [zu_row, if_neg (by decide)]; exact c2), zu_at _ _ _ _, fun z => absurd rfl z, fun _ => rfl⟩)
        · refine z_aload_n 0 dX8_readOf_55 rfl rfl ?_
          refine z_iconst dX8_readOf_56 ?_
          refine z_aload_n 0 dX8_readOf_57 rfl rfl ?_
          refine z_geti fl_RX8_126 (by decide) rfl rfl dX8_readOf_58 ?_
          rw [zu_row, if_neg (by decide), c3]
          refine z_cv (t8_fails l hg _ (k := 3) (s := sk tp tl q)) mk_X8_fails mi_X8_fails ml_RX8_137 (by omega) (by decide) rfl rfl rfl rfl (Nat.le_of_ble_eq_true rfl) dX8_readOf_61 (fun r_61 d_61 q_61 => ?_)
          obtain ⟨rfl, rfl⟩ := q_61
          show zV l x g mX8_readOf 3 _ _ _ [_] _
          refine z_if_eq_b 71 dX8_readOf_64 (by decide) (fun h_64 => ?_) (fun h_64 => absurd h_64 (by decide))
          refine z_iconst dX8_readOf_71 ?_
          refine z_goto 84 dX8_readOf_72 (by decide) ?_
          exact z_bret (b := false) rfl dX8_readOf_84 (PM.f (by rw [spOf, if_neg (by rw [hw0]; decide), if_pos hw2, if_pos (by omega)]) (((F2.MPF (by decide)).up (by decide)).up (by decide)) (zu_at _ _ _ _))
    · refine z_aload_n 0 dX8_readOf_25 rfl rfl ?_
      refine z_iconst dX8_readOf_26 ?_
      refine z_puti fp_RX8_171 (by decide) rfl rfl dX8_readOf_27 ?_
      refine z_iconst dX8_readOf_30 ?_
      have hw0 := (isW_0 hk).mp (lcmp_0.mp h_22)
      exact z_bret (b := true) rfl dX8_readOf_31 (PM.t (v := (en tp tl q, 0, -1)) (by rw [spOf, if_pos hw0]) ((F2.MPF (by decide)).up (by decide)) (by rw [zu_row, if_neg (by decide), F2.2 24 (by decide)]) ⟨F2.up (by decide), CU.at he.2 (by rw [zu_row, if_neg (by decide)]; exact c2), zu_at _ _ _ _, fun _ => by rw [zu_row, if_neg (by decide), c1.2 32 (by decide), e32], fun z => absurd (show (0 : Nat) = 2 from z) (by decide)⟩)
theorem t8_readAmend (l : Launch) {g : zG} (hg : zAmOk g) {d : zD} {tp : Nat → Nat} {tl p : Nat} {h : Hl} {b : Bool} (T : TM d tp tl) (C : CU d tp tl (en tp tl p)) (H : HN d h b) : zC l g mX8_readAmend 4 [zr g 37, zi (sk tp tl p : Nat)] d (PM d (spAm tp tl h b p) (okM tp tl)) := by
  have w3 := H.2.2.2.2.1
  have t2 := T.2.1
  obtain ⟨⟨h0, h1, h2, h3, h4, h5⟩, q2, q3, q4⟩ := id H.1
  have key3 : ∀ (x : zX) (d3 : zD) (o : Nat × Nat × Int) (u v : Nat × Nat), spAm tp tl h b p = .inr (v.1, addM h o.2.1 o.2.2 u.2 v.2, b) → mOk h o.2.1 o.2.2 → u.2 < 256 → v.2 < 256 → MPF d d3 → d3 37 24 = d 37 24 → CU d3 tp tl v.1 → HN d3 h b → d3 37 31 = (o.2.1 : Int) → (o.2.1 ≠ 2 → d3 37 32 = o.2.2) → (o.2.1 = 2 → o.2.2 = hS h) → hN h < 6 → zV l x g mX8_readAmend 4 (PM d (spAm tp tl h b p) (okM tp tl)) 123 [(0, zr g 37), (1, zi (sk tp tl p : Nat)), (2, zi (u.2 : Int)), (3, zi (v.2 : Int))] [] d3 := by
    intro x d3 o u v hsp ho hu hv f1 f2 C3 H3 e31 e32 e2 hn
    have hso : o.2.1 ≤ 3 := by rcases ho with z | z | z <;> omega
    refine z_aload_n 0 dX8_readAmend_123 rfl rfl ?_
    refine z_aload_n 0 dX8_readAmend_124 rfl rfl ?_
    refine z_geti fl_RX8_171 (by decide) rfl rfl dX8_readAmend_125 ?_
    rw [e31]
    refine z_aload_n 0 dX8_readAmend_128 rfl rfl ?_
    refine z_geti fl_RX8_171 (by decide) rfl rfl dX8_readAmend_129 ?_
    rw [e31]
    refine z_iconst dX8_readAmend_132 ?_
    refine z_icmp_ne 145 (by omega) (by omega) dX8_readAmend_133 (by decide) (fun h_133 => ?_) (fun h_133 => ?_)
    · refine z_aload_n 0 dX8_readAmend_145 rfl rfl ?_
      refine z_geti fl_RX8_166 (by decide) rfl rfl dX8_readAmend_146 ?_
      rw [e32 (by omega)]
      refine z_iload_n 2 dX8_readAmend_149 rfl rfl ?_
      refine z_iload_n 3 dX8_readAmend_150 rfl rfl ?_
      refine z_cv (t8_comes l hg H3.1 hn (so := o.2.1) (pa := o.2.2) (pl := u.2) (mi := v.2)) mk_X8_comes mi_X8_comes ml_RX8_162 (by omega) (by decide) rfl rfl rfl rfl (Nat.le_of_ble_eq_true rfl) dX8_readAmend_151 (zvoid fun d_151 q_151 => ?_)
      obtain ⟨s1, s2⟩ := q_151
      refine z_iconst dX8_readAmend_154 ?_
      exact z_bret (b := true) rfl dX8_readAmend_155 (PM.t hsp (f1.tr (s1.MPF (by decide))) (by rw [s1 37 (by decide), f2]) ⟨C3.of (by rw [s1 37 (by decide)]), s2, by rw [s1 37 (by decide)]; exact H3.2.1, Wf_addM H3.2.2 hn ho hu hv⟩)
    · refine z_aload_n 0 dX8_readAmend_136 rfl rfl ?_
      refine z_getr fl_RX8_13 (by decide) rfl rfl dX8_readAmend_137 ?_
      refine z_iconst dX8_readAmend_140 ?_
      refine z_iald 2 (by decide) rfl rfl (by decide) (by decide) dX8_readAmend_141 ?_
      refine z_goto 149 dX8_readAmend_142 (by decide) ?_
      rw [H3.1.1.2.2.1, ← e2 (by omega)]
      refine z_iload_n 2 dX8_readAmend_149 rfl rfl ?_
      refine z_iload_n 3 dX8_readAmend_150 rfl rfl ?_
      refine z_cv (t8_comes l hg H3.1 hn (so := o.2.1) (pa := o.2.2) (pl := u.2) (mi := v.2)) mk_X8_comes mi_X8_comes ml_RX8_162 (by omega) (by decide) rfl rfl rfl rfl (Nat.le_of_ble_eq_true rfl) dX8_readAmend_151 (zvoid fun d_151 q_151 => ?_)
      obtain ⟨s1, s2⟩ := q_151
      refine z_iconst dX8_readAmend_154 ?_
      exact z_bret (b := true) rfl dX8_readAmend_155 (PM.t hsp (f1.tr (s1.MPF (by decide))) (by rw [s1 37 (by decide), f2]) ⟨C3.of (by rw [s1 37 (by decide)]), s2, by rw [s1 37 (by decide)]; exact H3.2.1, Wf_addM H3.2.2 hn ho hu hv⟩)
  have key2 : ∀ (x : zX) (d2 : zD) (o : Nat × Nat × Int) (u : Nat × Nat) (s : Bool), spOf tp tl h (en tp tl p) = .inr o → spSgn tp tl o.1 43 = .inr u → s = isS tp tl o.1 43 → (s = false → u.1 = o.1) → mOk h o.2.1 o.2.2 → u.1 ≤ tl → u.2 < 256 → MPF d d2 → d2 37 24 = d 37 24 → CU d2 tp tl u.1 → HN d2 h b → d2 37 31 = (o.2.1 : Int) → (o.2.1 ≠ 2 → d2 37 32 = o.2.2) → (o.2.1 = 2 → o.2.2 = hS h) → hN h < 6 → zV l x g mX8_readAmend 4 (PM d (spAm tp tl h b p) (okM tp tl)) 71 [(0, zr g 37), (1, zi (sk tp tl p : Nat)), (2, zi (u.2 : Int)), (3, zi 0), (4, zi (zb s))] [] d2 := by
    intro x d2 o u s ho hu hs hso mo hu1 hu2 f1 f2 C2 H2 e31 e32 e2 hn
    have he2 := en_le (tp := tp) hu1
    have T2 : TM d2 tp tl := f1.TM T
    have hh := hvI_in tp (fun i hi => (T.2.2 i hi).2) u.1
    have hsS := hvI_s tp tl u.1 (c := 45) (by decide)
    refine z_aload_n 0 dX8_readAmend_71 rfl rfl ?_
    refine z_cv (t8_here l hg T2 C2) mk_X8_here mi_X8_here ml_RX8_116 (by omega) (by decide) rfl rfl rfl rfl (Nat.le_of_ble_eq_true rfl) dX8_readAmend_72 (fun r_72 d_72 q_72 => ?_)
    obtain ⟨rfl, g1, g2⟩ := q_72
    show zV l x g mX8_readAmend 4 _ _ _ [_] _
    refine z_bipush dX8_readAmend_75 (by decide) ?_
    refine z_icmp_ne 108 (by omega) (by omega) dX8_readAmend_77 (by decide) (fun h_77 => ?_) (fun h_77 => ?_)
    · have h_s : isS tp tl u.1 45 = false := by rw [← Bool.not_eq_true]; exact fun z => h_77 (hsS.mpr z)
      refine z_iload 4 dX8_readAmend_108 rfl ?_
      refine z_if_ne_b 123 dX8_readAmend_110 (by decide) (fun h_110 => ?_) (fun h_110 => ?_)
      · refine z_sub (L' := [(0, _), (1, _), (2, _), (3, _)]) [0, 1, 2, 3] rfl ?_
        exact key3 x d_72 o u (u.1, 0) (by rw [spAm, if_neg (by omega), ho]; dsimp only; rw [if_neg (fun z => by rw [← hs, h_110] at z; cases z.1), hu]; dsimp only; rw [spSgn, if_neg (by rw [h_s]; decide)]) mo hu2 (by show 0 < 256; decide) (f1.tr (g1.MPF (by decide))) (by rw [g1.2 24 (by decide), f2]) (CU.sk hu1 g2) (H2.of g1 (by decide)) (by rw [g1.2 31 (by decide), e31]) (fun z => by rw [g1.2 32 (by decide), e32 z]) e2 hn
      · refine z_aload_n 0 dX8_readAmend_113 rfl rfl ?_
        refine z_iconst dX8_readAmend_114 ?_
        refine z_aload_n 0 dX8_readAmend_115 rfl rfl ?_
        refine z_geti fl_RX8_110 (by decide) rfl rfl dX8_readAmend_116 ?_
        rw [g2]
        refine z_cv (t8_fails l hg d_72 (k := 1) (s := sk tp tl u.1)) mk_X8_fails mi_X8_fails ml_RX8_137 (by omega) (by decide) rfl rfl rfl rfl (Nat.le_of_ble_eq_true rfl) dX8_readAmend_119 (fun r_119 d_119 q_119 => ?_)
        obtain ⟨rfl, rfl⟩ := q_119
        show zV l x g mX8_readAmend 4 _ _ _ [_] _
        have hu1' := hso h_110
        exact z_bret rfl dX8_readAmend_122 (PM.f (by rw [spAm, if_neg (by omega), ho]; dsimp only; rw [if_pos ⟨by rw [← hs]; exact h_110, by rw [← hu1']; exact h_s⟩, hu1']) ((f1.tr (g1.MPF (by decide))).up (by decide)) (zu_at _ _ _ _))
    · have h_s : isS tp tl u.1 45 = true := hsS.mp h_77
      refine z_aload_n 0 dX8_readAmend_80 rfl rfl ?_
      refine z_dup dX8_readAmend_81 rfl ?_
      refine z_geti fl_RX8_110 (by decide) rfl rfl dX8_readAmend_82 ?_
      rw [g2]
      refine z_iconst dX8_readAmend_85 ?_
      refine z_iadd dX8_readAmend_86 ?_
      refine z_puti fp_RX8_110 (by decide) rfl rfl dX8_readAmend_87 ?_
      refine z_aload_n 0 dX8_readAmend_90 rfl rfl ?_
      refine z_iconst dX8_readAmend_91 ?_
      have hR : MR [23] d_72 (zu d_72 37 23 ((sk tp tl u.1 : Nat) + 1)) := MR.rf.up (by decide)
      have T3 := (hR.MPF (by decide)).TM ((g1.MPF (by decide)).TM T2)
      refine z_cv (t8_readSet l hg T3 (CU.at he2.2 (by rw [zu_at, (en_s h_s).1]; rfl)) (least := 1) (by decide)) mk_X8_readSet mi_X8_readSet ml_RX8_158 (by omega) (by decide) rfl rfl rfl rfl (Nat.le_of_ble_eq_true rfl) dX8_readAmend_92 (z_pm (fun f_92 d_92 e_92 a_92 b_92 => ?_) (fun v_92 d_92 e_92 a_92 b_92 c_92 => ?_))
      · have hss : ¬ (isS tp tl o.1 43 = false ∧ isS tp tl o.1 45 = false) := fun z => by
          have z1 := hso (hs.trans z.1)
          rw [z1] at h_s
          rw [h_s] at z
          cases z.2
        refine z_if_ne 100 (by decide) dX8_readAmend_95 (by decide) (fun h_95 => absurd h_95 (by decide)) (fun h_95 => ?_)
        refine z_iconst dX8_readAmend_98 ?_
        exact z_bret (b := false) rfl dX8_readAmend_99 (PM.f (by rw [spAm, if_neg (by omega), ho]; dsimp only; rw [if_neg hss, hu]; dsimp only; rw [spSgn, if_pos h_s, e_92]) (((f1.tr (g1.MPF (by decide))).tr (hR.MPF (by decide))).tr a_92) b_92)
      · obtain ⟨c1, c2, c3⟩ := c_92
        have hR4 : MR [23, 26, 28, 29] d2 d_92 := ((g1.tr hR).mono (by decide)).tr c1
        have hss : ¬ (isS tp tl o.1 43 = false ∧ isS tp tl o.1 45 = false) := fun z => by
          have z1 := hso (hs.trans z.1)
          rw [z1] at h_s
          rw [h_s] at z
          cases z.2
        refine z_if_ne 100 (by decide) dX8_readAmend_95 (by decide) (fun h_95 => ?_) (fun h_95 => absurd h_95 (by decide))
        refine z_aload_n 0 dX8_readAmend_100 rfl rfl ?_
        refine z_geti fl_RX8_123 (by decide) rfl rfl dX8_readAmend_101 ?_
        rw [c3]
        refine z_istore_n (L' := [(0, _), (1, _), (2, _), (3, _), (4, _)]) dX8_readAmend_104 rfl (by decide) rfl rfl ?_
        refine z_iconst dX8_readAmend_105 ?_
        refine z_istore (L' := [(0, _), (1, _), (2, _), (3, _), (4, _)]) dX8_readAmend_106 (by decide) rfl rfl ?_
        refine z_iload 4 dX8_readAmend_108 rfl ?_
        refine z_if_ne 123 (by decide) dX8_readAmend_110 (by decide) (fun h_110 => ?_) (fun h_110 => absurd h_110 (by decide))
        refine z_sub (L' := [(0, _), (1, _), (2, _), (3, _)]) [0, 1, 2, 3] rfl ?_
        exact key3 x d_92 o u v_92 (by rw [spAm, if_neg (by omega), ho]; dsimp only; rw [if_neg hss, hu]; dsimp only; rw [spSgn, if_pos h_s, e_92]) mo hu2 (spSet_ok (q := v_92.1) (s := v_92.2) he2.2 e_92).2.2 (((f1.tr (g1.MPF (by decide))).tr (hR.MPF (by decide))).tr a_92) (by rw [b_92, hR.2 24 (by decide), g1.2 24 (by decide), f2]) c2 (H2.of hR4 (by decide)) (by rw [hR4.2 31 (by decide), e31]) (fun z => by rw [hR4.2 32 (by decide), e32 z]) e2 hn
  refine zC_of (L := [(0, _), (1, _)]) mk_X8_readAmend (Nat.le_of_ble_eq_true rfl) hg rfl (fun x => ?_)
  refine z_aload_n 0 dX8_readAmend_0 rfl rfl ?_
  refine z_getr fl_RX8_13 (by decide) rfl rfl dX8_readAmend_1 ?_
  refine z_iconst dX8_readAmend_4 ?_
  refine z_iald 1 (by decide) rfl rfl (by decide) (by decide) dX8_readAmend_5 ?_
  refine z_bipush dX8_readAmend_6 (by decide) ?_
  rw [h1]
  refine z_icmp_ne 18 (by omega) (by omega) dX8_readAmend_8 (by decide) (fun h_8 => ?_) (fun h_8 => ?_)
  · refine z_aload_n 0 dX8_readAmend_18 rfl rfl ?_
    refine z_cv (t8_readOf l hg T C H) mk_X8_readOf mi_X8_readOf ml_RX8_176 (by omega) (by decide) rfl rfl rfl rfl (Nat.le_of_ble_eq_true rfl) dX8_readAmend_19 (z_pm (fun f_19 d_19 e_19 a_19 b_19 => ?_) (fun v_19 d_19 e_19 a_19 b_19 c_19 => ?_))
    · refine z_if_ne 27 (by decide) dX8_readAmend_22 (by decide) (fun h_22 => absurd h_22 (by decide)) (fun h_22 => ?_)
      refine z_iconst dX8_readAmend_25 ?_
      exact z_bret (b := false) rfl dX8_readAmend_26 (PM.f (by rw [spAm, if_neg (by omega), e_19]) a_19 b_19)
    · obtain ⟨c1, c2, c3, c4, c5⟩ := c_19
      have hof := spOf_ok (q := v_19.1) (so := v_19.2.1) (pa := v_19.2.2) C.1 e_19
      have H1 : HN d_19 h b := H.of c1 (by decide)
      have T1 := a_19.TM T
      have hv1 := c2.1
      have he1 := en_le (tp := tp) hv1
      have hh := hvI_in tp (fun i hi => (T.2.2 i hi).2) v_19.1
      have hsS := hvI_s tp tl v_19.1 (c := 43) (by decide)
      refine z_if_ne 27 (by decide) dX8_readAmend_22 (by decide) (fun h_22 => ?_) (fun h_22 => absurd h_22 (by decide))
      refine z_iconst dX8_readAmend_27 ?_
      refine z_istore_n (L' := [(0, _), (1, _), (2, _)]) dX8_readAmend_28 rfl (by decide) rfl rfl ?_
      refine z_iconst dX8_readAmend_29 ?_
      refine z_istore_n (L' := [(0, _), (1, _), (2, _), (3, _)]) dX8_readAmend_30 rfl (by decide) rfl rfl ?_
      refine z_iconst dX8_readAmend_31 ?_
      refine z_istore (L' := [(0, _), (1, _), (2, _), (3, _), (4, _)]) dX8_readAmend_32 (by decide) rfl rfl ?_
      refine z_aload_n 0 dX8_readAmend_34 rfl rfl ?_
      refine z_cv (t8_here l hg T1 c2) mk_X8_here mi_X8_here ml_RX8_116 (by omega) (by decide) rfl rfl rfl rfl (Nat.le_of_ble_eq_true rfl) dX8_readAmend_35 (fun r_35 d_35 q_35 => ?_)
      obtain ⟨rfl, g1, g2⟩ := q_35
      show zV l x g mX8_readAmend 4 _ _ _ [_] _
      refine z_bipush dX8_readAmend_38 (by decide) ?_
      refine z_icmp_ne 71 (by omega) (by omega) dX8_readAmend_40 (by decide) (fun h_40 => ?_) (fun h_40 => ?_)
      · have h_s : isS tp tl v_19.1 43 = false := by rw [← Bool.not_eq_true]; exact fun z => h_40 (hsS.mpr z)
        exact key2 x d_35 v_19 (v_19.1, 0) false e_19 (by rw [spSgn, if_neg (by rw [h_s]; decide)]) h_s.symm (fun z => rfl) hof.2 hv1 (by show 0 < 256; decide) (a_19.tr (g1.MPF (by decide))) (by rw [g1.2 24 (by decide), b_19]) (CU.sk hv1 g2) (H1.of g1 (by decide)) (by rw [g1.2 31 (by decide), c3]) (fun z => by rw [g1.2 32 (by decide), c4 z]) c5 (by omega)
      · have h_s : isS tp tl v_19.1 43 = true := hsS.mp h_40
        refine z_aload_n 0 dX8_readAmend_43 rfl rfl ?_
        refine z_dup dX8_readAmend_44 rfl ?_
        refine z_geti fl_RX8_110 (by decide) rfl rfl dX8_readAmend_45 ?_
        rw [g2]
        refine z_iconst dX8_readAmend_48 ?_
        refine z_iadd dX8_readAmend_49 ?_
        refine z_puti fp_RX8_110 (by decide) rfl rfl dX8_readAmend_50 ?_
        refine z_aload_n 0 dX8_readAmend_53 rfl rfl ?_
        refine z_iconst dX8_readAmend_54 ?_
        have hR : MR [23] d_35 (zu d_35 37 23 ((sk tp tl v_19.1 : Nat) + 1)) := MR.rf.up (by decide)
        have T3 := (hR.MPF (by decide)).TM ((g1.MPF (by decide)).TM T1)
        refine z_cv (t8_readSet l hg T3 (CU.at he1.2 (by rw [zu_at, (en_s h_s).1]; rfl)) (least := 1) (by decide)) mk_X8_readSet mi_X8_readSet ml_RX8_158 (by omega) (by decide) rfl rfl rfl rfl (Nat.le_of_ble_eq_true rfl) dX8_readAmend_55 (z_pm (fun f_55 d_55 e_55 a_55 b_55 => ?_) (fun v_55 d_55 e_55 a_55 b_55 c_55 => ?_))
        · refine z_if_ne 63 (by decide) dX8_readAmend_58 (by decide) (fun h_58 => absurd h_58 (by decide)) (fun h_58 => ?_)
          refine z_iconst dX8_readAmend_61 ?_
          exact z_bret (b := false) rfl dX8_readAmend_62 (PM.f (by rw [spAm, if_neg (by omega), e_19]; dsimp only; rw [if_neg (fun z => by rw [h_s] at z; cases z.1), spSgn, if_pos h_s, e_55]) (((a_19.tr (g1.MPF (by decide))).tr (hR.MPF (by decide))).tr a_55) b_55)
        · obtain ⟨u1, u2, u3⟩ := c_55
          have hR4 : MR [23, 26, 28, 29] d_19 d_55 := ((g1.tr hR).mono (by decide)).tr u1
          have hse := spSet_ok (q := v_55.1) (s := v_55.2) he1.2 e_55
          refine z_if_ne 63 (by decide) dX8_readAmend_58 (by decide) (fun h_58 => ?_) (fun h_58 => absurd h_58 (by decide))
          refine z_aload_n 0 dX8_readAmend_63 rfl rfl ?_
          refine z_geti fl_RX8_123 (by decide) rfl rfl dX8_readAmend_64 ?_
          rw [u3]
          refine z_istore_n (L' := [(0, _), (1, _), (2, _), (3, _), (4, _)]) dX8_readAmend_67 rfl (by decide) rfl rfl ?_
          refine z_iconst dX8_readAmend_68 ?_
          refine z_istore (L' := [(0, _), (1, _), (2, _), (3, _), (4, _)]) dX8_readAmend_69 (by decide) rfl rfl ?_
          exact key2 x d_55 v_19 v_55 true e_19 (by rw [spSgn, if_pos h_s, e_55]) h_s.symm (fun z => by cases z) hof.2 hse.2.1 hse.2.2 (((a_19.tr (g1.MPF (by decide))).tr (hR.MPF (by decide))).tr a_55) (by rw [b_55, hR.2 24 (by decide), g1.2 24 (by decide), b_19]) u2 (H1.of hR4 (by decide)) (by rw [hR4.2 31 (by decide), c3]) (fun z => by rw [hR4.2 32 (by decide), c4 z]) c5 (by omega)
  · refine z_aload_n 0 dX8_readAmend_11 rfl rfl ?_
    refine z_iconst dX8_readAmend_12 ?_
    refine z_iload_n 1 dX8_readAmend_13 rfl rfl ?_
    refine z_cv (t8_fails l hg d (k := 4) (s := sk tp tl p)) mk_X8_fails mi_X8_fails ml_RX8_137 (by omega) (by decide) rfl rfl rfl rfl (Nat.le_of_ble_eq_true rfl) dX8_readAmend_14 (fun r_14 d_14 q_14 => ?_)
    obtain ⟨rfl, rfl⟩ := q_14
    show zV l x g mX8_readAmend 4 _ _ _ [_] _
    exact z_bret rfl dX8_readAmend_17 (PM.f (by rw [spAm, if_pos (by omega)]) (MPF.rf.up (by decide)) (zu_at _ _ _ _))
