/-! the class's Reader: amendments, voters, whole texts; tell -/
theorem kd1_en {tp : Nat → Nat} {tl p : Nat} (hk1 : kd tp tl p = 1) : sk tp tl p < tl ∧ en tp tl p = rn tp tl 97 122 (sk tp tl p) := by
  unfold kd at hk1
  unfold en
  split at hk1
  · cases hk1
  · rename_i c
    rw [if_neg c]
    refine ⟨by omega, ?_⟩
    split at hk1
    · rename_i c2; rw [if_pos c2]
    · split at hk1
      · split at hk1 <;> cases hk1
      · cases hk1
theorem ifs_t {c : Prop} [Decidable c] {a f v : Nat} (e : (if c then Sum.inr a else Sum.inl f : Nat ⊕ Nat) = .inr v) : c ∧ a = v := by
  split at e
  · rename_i h; cases e; exact ⟨h, rfl⟩
  · cases e
theorem ifs_f {c : Prop} [Decidable c] {a f v : Nat} (e : (if c then Sum.inr a else Sum.inl f : Nat ⊕ Nat) = .inl v) : ¬ c ∧ f = v := by
  split at e
  · cases e
  · rename_i h; cases e; exact ⟨h, rfl⟩
theorem t_amendment (l : Launch) {g : zG} (hg : zAmOk g) {adK adV : Nat → Nat} (hs : zStr g adK adV) {d : zD} {tp : Nat → Nat} {tl p : Nat} {h : Hl} {b : Bool} (K : TK d tp tl p) (H : HD d h b) : zC l g mX3_amendment 10 [zr g 20] d (PQ d (spAm tp tl h b p) (okS tp tl)) := by
  obtain ⟨T, hp, k1, k2, k3, k4, k5⟩ := id K
  have he := en_le (tp := tp) hp
  have w3 := H.2.2.1.2.2.1
  obtain ⟨⟨h0, h1, h2, h3, h4, h5⟩, q2, q3, q4⟩ := id H.1
  have key3 : ∀ (x : zX) (d3 : zD) (o : Nat × Nat × Int) (u v : Nat × Nat), spAm tp tl h b p = .inr (v.1, addM h o.2.1 o.2.2 u.2 v.2, b) → mOk h o.2.1 o.2.2 → u.2 < 256 → v.2 < 256 → DF d d3 → d3 20 4 = d 20 4 → TK d3 tp tl v.1 → HD d3 h b → d3 20 11 = (o.2.1 : Int) → d3 20 12 = o.2.2 → hN h < 6 → zV l x g mX3_amendment 10 (PQ d (spAm tp tl h b p) (okS tp tl)) 115 [(0, zr g 20), (1, zi (u.2 : Int)), (2, zi (v.2 : Int))] [] d3 := by
    intro x d3 o u v hsp ho hu hv f1 f2 K3 H3 e11 e12 hn
    refine z_aload_n 0 dX3_amendment_115 rfl rfl ?_
    refine z_getr fl_RX3_15 (by decide) rfl rfl dX3_amendment_116 ?_
    refine z_aload_n 0 dX3_amendment_119 rfl rfl ?_
    refine z_geti fl_RX3_112 (by decide) rfl rfl dX3_amendment_120 ?_
    refine z_aload_n 0 dX3_amendment_123 rfl rfl ?_
    refine z_geti fl_RX3_115 (by decide) rfl rfl dX3_amendment_124 ?_
    rw [e11, e12]
    refine z_iload_n 1 dX3_amendment_127 rfl rfl ?_
    refine z_iload_n 2 dX3_amendment_128 rfl rfl ?_
    refine z_cv (t_addMotion l hg H3.1 hn (b := b) (so := o.2.1) (pa := o.2.2) (pl := u.2) (mi := v.2)) mk_X2_addMotion mi_X2_addMotion ml_RX3_118 (by omega) (by decide) rfl rfl rfl rfl (Nat.le_of_ble_eq_true rfl) dX3_amendment_129 (zvoid fun d_129 q_129 => ?_)
    obtain ⟨s1, s2⟩ := q_129
    refine z_iconst dX3_amendment_132 ?_
    exact z_bret (b := true) rfl dX3_amendment_133 (PQ.t hsp (f1.tr (DF.of s1 (by decide))) (by rw [s1 20 (by decide), f2]) ⟨K3.of (s1 1 (by decide)) (fun i hi => by rw [s1 20 (by decide)]), s2, by rw [s1 20 (by decide)]; exact H3.2.1, Wf_addM H3.2.2.1 hn ho hu hv, fun i h1 h2 => by rw [s1 16 (by decide)]; exact H3.2.2.2 i h1 h2⟩)
  have key2 : ∀ (x : zX) (d2 : zD) (o : Nat × Nat × Int) (u : Nat × Nat), spOf tp tl h (en tp tl p) = .inr o → ¬ (isS tp tl o.1 43 = false ∧ isS tp tl o.1 45 = false) → spSgn tp tl o.1 43 = .inr u → mOk h o.2.1 o.2.2 → u.1 ≤ tl → u.2 < 256 → DF d d2 → d2 20 4 = d 20 4 → TK d2 tp tl u.1 → HD d2 h b → d2 20 11 = (o.2.1 : Int) → d2 20 12 = o.2.2 → hN h < 6 → zV l x g mX3_amendment 10 (PQ d (spAm tp tl h b p) (okS tp tl)) 85 [(0, zr g 20), (1, zi (u.2 : Int))] [] d2 := by
    intro x d2 o u ho hss hu mo hu1 hu2 f1 f2 K2 H2 e11 e12 hn
    obtain ⟨T2, hp2, a1, a2, a3, a4, a5⟩ := id K2
    have he2 := en_le (tp := tp) hp2
    refine z_iconst dX3_amendment_85 ?_
    refine z_istore_n (L' := [(0, _), (1, _), (2, _)]) dX3_amendment_86 rfl (by decide) rfl rfl ?_
    refine z_aload_n 0 dX3_amendment_87 rfl rfl ?_
    refine z_bipush dX3_amendment_88 (by decide) ?_
    refine z_cv (t_isSign l hg K2 (c := 45) (by decide)) mk_X3_isSign mi_X3_isSign ml_RX3_94 (by omega) (by decide) rfl rfl rfl rfl (Nat.le_of_ble_eq_true rfl) dX3_amendment_90 (zpure ?_)
    refine z_if_eq_b 115 dX3_amendment_93 (by decide) (fun h_93 => ?_) (fun h_93 => ?_)
    · exact key3 x d2 o u (u.1, 0) (by rw [spAm, if_neg (by omega), ho]; dsimp only; rw [if_neg hss, hu]; dsimp only; rw [spSgn, if_neg (by rw [h_93]; decide)]) mo hu2 (by show 0 < 256; decide) f1 f2 K2 H2 e11 e12 hn
    · refine z_aload_n 0 dX3_amendment_96 rfl rfl ?_
      refine z_cv (t_step l hg T2 (q := en tp tl u.1) a3 he2.2) mk_X3_step mi_X3_step ml_RX3_47 (by omega) (by decide) rfl rfl rfl rfl (Nat.le_of_ble_eq_true rfl) dX3_amendment_97 (zvoid fun d_97 q_97 => ?_)
      obtain ⟨g1, K3⟩ := q_97
      refine z_aload_n 0 dX3_amendment_100 rfl rfl ?_
      refine z_iconst dX3_amendment_101 ?_
      refine z_cv (t_clauseSet l hg K3 (least := 1) (by decide)) mk_X3_clauseSet mi_X3_clauseSet ml_RX3_98 (by omega) (by decide) rfl rfl rfl rfl (Nat.le_of_ble_eq_true rfl) dX3_amendment_102 (z_pq (fun f_102 d_102 e_102 a_102 b_102 => ?_) (fun v_102 d_102 e_102 a_102 b_102 c_102 => ?_))
      · refine z_if_ne 110 (by decide) dX3_amendment_105 (by decide) (fun h_105 => absurd h_105 (by decide)) (fun h_105 => ?_)
        refine z_iconst dX3_amendment_108 ?_
        exact z_bret (b := false) rfl dX3_amendment_109 (PQ.f (by rw [spAm, if_neg (by omega), ho]; dsimp only; rw [if_neg hss, hu]; dsimp only; rw [spSgn, if_pos h_93, e_102]) ((f1.tr g1.RG.DF).tr a_102) b_102)
      · refine z_if_ne 110 (by decide) dX3_amendment_105 (by decide) (fun h_105 => ?_) (fun h_105 => absurd h_105 (by decide))
        refine z_aload_n 0 dX3_amendment_110 rfl rfl ?_
        refine z_geti fl_RX3_101 (by decide) rfl rfl dX3_amendment_111 ?_
        obtain ⟨c1, c2, c3⟩ := c_102
        rw [c3]
        refine z_istore_n (L' := [(0, _), (1, _), (2, _)]) dX3_amendment_114 rfl (by decide) rfl rfl ?_
        exact key3 x d_102 o u v_102 (by rw [spAm, if_neg (by omega), ho]; dsimp only; rw [if_neg hss, hu]; dsimp only; rw [spSgn, if_pos h_93, e_102]) mo hu2 (spSet_ok (q := v_102.1) (s := v_102.2) he2.2 e_102).2.2 ((f1.tr g1.RG.DF).tr a_102) (by rw [b_102, g1.2 4 (by decide) (by decide) (by decide) (by decide), f2]) c2 ((H2.of g1.1 (g1.2 3 (by decide) (by decide) (by decide) (by decide))).of c1.1 (c1.2 3 (by decide))) (by rw [c1.2 11 (by decide), g1.2 11 (by decide) (by decide) (by decide) (by decide), e11]) (by rw [c1.2 12 (by decide), g1.2 12 (by decide) (by decide) (by decide) (by decide), e12]) hn
  have key1 : ∀ (x : zX) (d1 : zD) (o : Nat × Nat × Int), spOf tp tl h (en tp tl p) = .inr o → ¬ (isS tp tl o.1 43 = false ∧ isS tp tl o.1 45 = false) → mOk h o.2.1 o.2.2 → DF d d1 → d1 20 4 = d 20 4 → TK d1 tp tl o.1 → HD d1 h b → d1 20 11 = (o.2.1 : Int) → d1 20 12 = o.2.2 → hN h < 6 → zV l x g mX3_amendment 10 (PQ d (spAm tp tl h b p) (okS tp tl)) 55 [(0, zr g 20)] [] d1 := by
    intro x d2 o ho hss mo f1 f2 K2 H2 e11 e12 hn
    obtain ⟨T2, hp2, a1, a2, a3, a4, a5⟩ := id K2
    have he2 := en_le (tp := tp) hp2
    refine z_iconst dX3_amendment_55 ?_
    refine z_istore_n (L' := [(0, _), (1, _)]) dX3_amendment_56 rfl (by decide) rfl rfl ?_
    refine z_aload_n 0 dX3_amendment_57 rfl rfl ?_
    refine z_bipush dX3_amendment_58 (by decide) ?_
    refine z_cv (t_isSign l hg K2 (c := 43) (by decide)) mk_X3_isSign mi_X3_isSign ml_RX3_94 (by omega) (by decide) rfl rfl rfl rfl (Nat.le_of_ble_eq_true rfl) dX3_amendment_60 (zpure ?_)
    refine z_if_eq_b 85 dX3_amendment_63 (by decide) (fun h_63 => ?_) (fun h_63 => ?_)
    · exact key2 x d2 o (o.1, 0) ho hss (by rw [spSgn, if_neg (by rw [h_63]; decide)]) mo hp2 (by show 0 < 256; decide) f1 f2 K2 H2 e11 e12 hn
    · refine z_aload_n 0 dX3_amendment_66 rfl rfl ?_
      refine z_cv (t_step l hg T2 (q := en tp tl o.1) a3 he2.2) mk_X3_step mi_X3_step ml_RX3_47 (by omega) (by decide) rfl rfl rfl rfl (Nat.le_of_ble_eq_true rfl) dX3_amendment_67 (zvoid fun d_67 q_67 => ?_)
      obtain ⟨g1, K3⟩ := q_67
      refine z_aload_n 0 dX3_amendment_70 rfl rfl ?_
      refine z_iconst dX3_amendment_71 ?_
      refine z_cv (t_clauseSet l hg K3 (least := 1) (by decide)) mk_X3_clauseSet mi_X3_clauseSet ml_RX3_98 (by omega) (by decide) rfl rfl rfl rfl (Nat.le_of_ble_eq_true rfl) dX3_amendment_72 (z_pq (fun f_72 d_72 e_72 a_72 b_72 => ?_) (fun v_72 d_72 e_72 a_72 b_72 c_72 => ?_))
      · refine z_if_ne 80 (by decide) dX3_amendment_75 (by decide) (fun h_75 => absurd h_75 (by decide)) (fun h_75 => ?_)
        refine z_iconst dX3_amendment_78 ?_
        exact z_bret (b := false) rfl dX3_amendment_79 (PQ.f (by rw [spAm, if_neg (by omega), ho]; dsimp only; rw [if_neg hss, spSgn, if_pos h_63, e_72]) ((f1.tr g1.RG.DF).tr a_72) b_72)
      · refine z_if_ne 80 (by decide) dX3_amendment_75 (by decide) (fun h_75 => ?_) (fun h_75 => absurd h_75 (by decide))
        refine z_aload_n 0 dX3_amendment_80 rfl rfl ?_
        refine z_geti fl_RX3_101 (by decide) rfl rfl dX3_amendment_81 ?_
        obtain ⟨c1, c2, c3⟩ := c_72
        rw [c3]
        have hse := spSet_ok (q := v_72.1) (s := v_72.2) he2.2 e_72
        refine z_istore_n (L' := [(0, _), (1, _)]) dX3_amendment_84 rfl (by decide) rfl rfl ?_
        exact key2 x d_72 o v_72 ho hss (by rw [spSgn, if_pos h_63, e_72]) mo hse.2.1 hse.2.2 ((f1.tr g1.RG.DF).tr a_72) (by rw [b_72, g1.2 4 (by decide) (by decide) (by decide) (by decide), f2]) c2 ((H2.of g1.1 (g1.2 3 (by decide) (by decide) (by decide) (by decide))).of c1.1 (c1.2 3 (by decide))) (by rw [c1.2 11 (by decide), g1.2 11 (by decide) (by decide) (by decide) (by decide), e11]) (by rw [c1.2 12 (by decide), g1.2 12 (by decide) (by decide) (by decide) (by decide), e12]) hn
  refine zC_of (L := [(0, _)]) mk_X3_amendment (Nat.le_of_ble_eq_true rfl) hg rfl (fun x => ?_)
  refine z_aload_n 0 dX3_amendment_0 rfl rfl ?_
  refine z_getr fl_RX3_15 (by decide) rfl rfl dX3_amendment_1 ?_
  refine z_geti fl_RX3_106 (by decide) rfl rfl dX3_amendment_4 ?_
  refine z_bipush dX3_amendment_7 (by decide) ?_
  rw [h3]
  refine z_icmp_lt 18 (by omega) (by omega) dX3_amendment_9 (by decide) (fun h_9 => ?_) (fun h_9 => ?_)
  · refine z_aload_n 0 dX3_amendment_18 rfl rfl ?_
    refine z_cv (t_step l hg T (q := en tp tl p) k3 he.2) mk_X3_step mi_X3_step ml_RX3_47 (by omega) (by decide) rfl rfl rfl rfl (Nat.le_of_ble_eq_true rfl) dX3_amendment_19 (zvoid fun d_19 q_19 => ?_)
    obtain ⟨g1, K1⟩ := q_19
    have H1 : HD d_19 h b := H.of g1.1 (g1.2 3 (by decide) (by decide) (by decide) (by decide))
    refine z_aload_n 0 dX3_amendment_22 rfl rfl ?_
    refine z_cv (t_target l hg hs K1 H1) mk_X3_target mi_X3_target ml_RX3_109 (by omega) (by decide) rfl rfl rfl rfl (Nat.le_of_ble_eq_true rfl) dX3_amendment_23 (z_pq (fun f_23 d_23 e_23 a_23 b_23 => ?_) (fun v_23 d_23 e_23 a_23 b_23 c_23 => ?_))
    · refine z_if_ne 31 (by decide) dX3_amendment_26 (by decide) (fun h_26 => absurd h_26 (by decide)) (fun h_26 => ?_)
      refine z_iconst dX3_amendment_29 ?_
      exact z_bret (b := false) rfl dX3_amendment_30 (PQ.f (by rw [spAm, if_neg (by omega), e_23]) (g1.RG.DF.tr a_23) b_23)
    · obtain ⟨c1, c2, c3, c4⟩ := c_23
      have hof := spOf_ok (q := v_23.1) (so := v_23.2.1) (pa := v_23.2.2) he.2 e_23
      have H2 : HD d_23 h b := H1.of c1.1 (c1.2 3 (by decide))
      refine z_if_ne 31 (by decide) dX3_amendment_26 (by decide) (fun h_26 => ?_) (fun h_26 => absurd h_26 (by decide))
      refine z_aload_n 0 dX3_amendment_31 rfl rfl ?_
      refine z_bipush dX3_amendment_32 (by decide) ?_
      refine z_cv (t_isSign l hg c2 (c := 43) (by decide)) mk_X3_isSign mi_X3_isSign ml_RX3_94 (by omega) (by decide) rfl rfl rfl rfl (Nat.le_of_ble_eq_true rfl) dX3_amendment_34 (zpure ?_)
      refine z_if_ne_b 55 dX3_amendment_37 (by decide) (fun h_37 => ?_) (fun h_37 => ?_)
      · exact key1 x d_23 v_23 e_23 (fun z => by rw [h_37] at z; cases z.1) hof.2 (g1.RG.DF.tr a_23) (by rw [b_23, g1.2 4 (by decide) (by decide) (by decide) (by decide)]) c2 H2 c3 c4 (by omega)
      · refine z_aload_n 0 dX3_amendment_40 rfl rfl ?_
        refine z_bipush dX3_amendment_41 (by decide) ?_
        refine z_cv (t_isSign l hg c2 (c := 45) (by decide)) mk_X3_isSign mi_X3_isSign ml_RX3_94 (by omega) (by decide) rfl rfl rfl rfl (Nat.le_of_ble_eq_true rfl) dX3_amendment_43 (zpure ?_)
        refine z_if_ne_b 55 dX3_amendment_46 (by decide) (fun h_46 => ?_) (fun h_46 => ?_)
        · exact key1 x d_23 v_23 e_23 (fun z => by rw [h_46] at z; cases z.2) hof.2 (g1.RG.DF.tr a_23) (by rw [b_23, g1.2 4 (by decide) (by decide) (by decide) (by decide)]) c2 H2 c3 c4 (by omega)
        · refine z_aload_n 0 dX3_amendment_49 rfl rfl ?_
          refine z_iconst dX3_amendment_50 ?_
          refine z_cv (t_refuse l hg (k := 1) (s := sk tp tl v_23.1) c2.2.2.2.1) mk_X3_refuse mi_X3_refuse ml_RX3_87 (by omega) (by decide) rfl rfl rfl rfl (Nat.le_of_ble_eq_true rfl) dX3_amendment_51 (fun r_51 d_51 q_51 => ?_)
          obtain ⟨rfl, rfl⟩ := q_51
          show zV l x g mX3_amendment 10 _ _ _ [_] _
          exact z_bret rfl dX3_amendment_54 (PQ.f (by rw [spAm, if_neg (by omega), e_23]; dsimp only; rw [if_pos ⟨h_37, h_46⟩]) ((g1.RG.DF.tr a_23).up (by decide)) (zu_at _ _ _ _))
  · refine z_aload_n 0 dX3_amendment_12 rfl rfl ?_
    refine z_iconst dX3_amendment_13 ?_
    refine z_cv (t_refuse l hg (k := 4) (s := sk tp tl p) k2) mk_X3_refuse mi_X3_refuse ml_RX3_87 (by omega) (by decide) rfl rfl rfl rfl (Nat.le_of_ble_eq_true rfl) dX3_amendment_14 (fun r_14 d_14 q_14 => ?_)
    obtain ⟨rfl, rfl⟩ := q_14
    show zV l x g mX3_amendment 10 _ _ _ [_] _
    exact z_bret rfl dX3_amendment_17 (PQ.f (by rw [spAm, if_pos (by omega)]) (DF.rf.up (by decide)) (zu_at _ _ _ _))
/-- the draft while a voter is read -/
def VH (d : zD) (h : Hl) (b : Bool) (wr : Nat → Int) : Prop := HC 11 d h ∧ d 20 3 = zb b ∧ Wf h ∧ (∀ c, c < 8 → d 16 (8 * hV h + c) = wr c) ∧ ∀ i, 8 * hV h + 8 ≤ i → i < 72 → d 16 i = 0
theorem VH.of {d d' : zD} {h : Hl} {b : Bool} {wr : Nat → Int} (H : VH d h b wr) (e : zF [20] d d') (e3 : d' 20 3 = d 20 3) : VH d' h b wr := ⟨H.1.of (fun p h1 h2 => e p (by simp; omega)), by rw [e3]; exact H.2.1, H.2.2.1, fun c hc => by rw [e 16 (by decide)]; exact H.2.2.2.1 c hc, fun i h1 h2 => by rw [e 16 (by decide)]; exact H.2.2.2.2 i h1 h2⟩
theorem VH.up {d : zD} {h : Hl} {b : Bool} {wr : Nat → Int} (H : VH d h b wr) {k : Nat} {y : Int} (hk : k < 8) : VH (zu d 16 (8 * hV h + k) y) h b (fun c => if c = k then y else wr c) := by
  have aF : zF [16] d (zu d 16 (8 * hV h + k) y) := zF.rf.up (by decide)
  obtain ⟨⟨hh, q2, q3, q4⟩, r1, r2, r3, r4⟩ := H
  refine ⟨⟨by rw [aF 11 (by decide)]; exact hh, fun i hi => by rw [aF 12 (by decide), aF 13 (by decide), aF 14 (by decide), aF 15 (by decide)]; exact q2 i hi, fun i hi => ?_, fun i hi => by rw [aF 17 (by decide), aF 18 (by decide), aF 19 (by decide)]; exact q4 i hi⟩, by rw [aF 20 (by decide)]; exact r1, r2, fun c hc => ?_, fun i h1 h2 => ?_⟩
  · show zu d 16 _ y 16 i = _
    rw [zu_row, if_neg (by omega)]; exact q3 i hi
  · rw [zu_row]
    dsimp only
    by_cases e : c = k
    · rw [if_pos e, if_pos (by omega)]
    · rw [if_neg e, if_neg (by omega)]; exact r3 c hc
  · rw [zu_row, if_neg (by omega)]; exact r4 i h1 h2
theorem VH.end {d : zD} {h : Hl} {b : Bool} {wr : Nat → Int} (H : VH d h b wr) (hv : hV h < 9) (hw : ∀ c, -9 ≤ wr c ∧ wr c ≤ 9) : HD (zu d 11 4 ((hV h : Int) + 1)) (addV h wr) b := by
  have aF : zF [11] d (zu d 11 4 ((hV h : Int) + 1)) := zF.rf.up (by decide)
  obtain ⟨⟨⟨h0, h1, h2, h3, h4, h5⟩, q2, q3, q4⟩, r1, r2, r3, r4⟩ := H
  refine ⟨⟨⟨by simp [zu]; exact h0, by simp [zu]; exact h1, by simp [zu]; exact h2, by simp [zu]; exact h3, by rw [zu_at]; rfl, by simp [zu]; exact h5⟩, fun i hi => by rw [aF 12 (by decide), aF 13 (by decide), aF 14 (by decide), aF 15 (by decide)]; exact q2 i hi, fun i hi => ?_, fun i hi => by rw [aF 17 (by decide), aF 18 (by decide), aF 19 (by decide)]; exact q4 i hi⟩, by rw [aF 20 (by decide)]; exact r1, Wf_addV r2 hv hw, fun i h1 h2 => by rw [aF 16 (by decide)]; exact r4 i (by have : 8 * (hV h + 1) ≤ i := h1; omega) h2⟩
  rw [aF 16 (by decide)]
  have hi' : i < 8 * (hV h + 1) := hi
  show d 16 i = if 8 * hV h ≤ i ∧ i < 8 * hV h + 8 then wr (i - 8 * hV h) else hwe h i
  by_cases e : 8 * hV h ≤ i
  · rw [if_pos ⟨e, by omega⟩, ← r3 (i - 8 * hV h) (by omega)]; congr 1; omega
  · rw [if_neg (by omega)]; exact q3 i (by omega)
theorem lp_voter {l : Launch} {x : zX} {g : zG} {n : Nat} {d : zD} {tp : Nat → Nat} {tl p : Nat} {h : Hl} {b : Bool} (hg : zAmOk g) (hv9 : hV h < 9) (hn : 3 < n) : ∀ r i q seen wr d1, i ≤ 9 → 9 - i < r → seen < 2 ^ 8 → TK d1 tp tl q → DF d d1 → d1 20 4 = d 20 4 → VH d1 h b wr → (∀ c, -9 ≤ wr c ∧ wr c ≤ 9) → spVo tp tl 9 (en tp tl p) 0 (fun _ => 0) = spVo tp tl (9 - i) q seen wr → zV l x g mX3_voter n (PQ d (spVot tp tl h b p) (okS tp tl)) 37 [(0, zr g 20), (1, zi ((8 * hV h : Nat) : Int)), (2, zi (seen : Int)), (3, zi (i : Int))] [] d1 := by
  intro r
  induction r with
  | zero => intro i q seen wr d1 hi hr; omega
  | succ r ih =>
    intro i q seen wr d1 hi hr hse K1 f1 f2 V hw hsp
    obtain ⟨T1, hp1, a1, a2, a3, a4, a5⟩ := id K1
    have he1 := en_le (tp := tp) hp1
    have hk4 := kd_le tp tl q
    have t2 := T1.2.1
    have hs1 := sk_le (tp := tp) hp1
    refine z_iload_n 3 dX3_voter_37 rfl rfl ?_
    refine z_bipush dX3_voter_38 (by decide) ?_
    refine z_icmp_gt 149 (by omega) (by omega) dX3_voter_40 (by decide) (fun h_40 => ?_) (fun h_40 => ?_)
    · refine z_aload_n 0 dX3_voter_149 rfl rfl ?_
      refine z_getr fl_RX3_15 (by decide) rfl rfl dX3_voter_150 ?_
      refine z_dup dX3_voter_153 rfl ?_
      refine z_geti fl_RX3_136 (by decide) rfl rfl dX3_voter_154 ?_
      rw [V.1.1.2.2.2.2.1]
      refine z_iconst dX3_voter_157 ?_
      refine z_iadd dX3_voter_158 ?_
      refine z_puti fp_RX3_136 (by decide) rfl rfl dX3_voter_159 ?_
      refine z_iconst dX3_voter_162 ?_
      have hend : spVo tp tl (9 - i) q seen wr = .inr (q, wr) := by rw [show 9 - i = 0 by omega]; rfl
      exact z_bret (b := true) rfl dX3_voter_163 (PQ.t (v := (q, addV h wr, b)) (by rw [spVot, if_neg (by omega), hsp, hend]) (f1.up (by decide)) (by rw [zu_ne (by decide), f2]) ⟨K1.of (zu_ne (by decide)) (fun j hj => by rw [zu_ne (by decide)]), V.end hv9 hw⟩)
    · refine z_aload_n 0 dX3_voter_43 rfl rfl ?_
      refine z_geti fl_RX3_50 (by decide) rfl rfl dX3_voter_44 ?_
      refine z_iconst dX3_voter_47 ?_
      rw [a1]
      refine z_icmp_ne 149 (by omega) (by omega) dX3_voter_48 (by decide) (fun h_48 => ?_) (fun h_48 => ?_)
      · refine z_aload_n 0 dX3_voter_149 rfl rfl ?_
        refine z_getr fl_RX3_15 (by decide) rfl rfl dX3_voter_150 ?_
        refine z_dup dX3_voter_153 rfl ?_
        refine z_geti fl_RX3_136 (by decide) rfl rfl dX3_voter_154 ?_
        rw [V.1.1.2.2.2.2.1]
        refine z_iconst dX3_voter_157 ?_
        refine z_iadd dX3_voter_158 ?_
        refine z_puti fp_RX3_136 (by decide) rfl rfl dX3_voter_159 ?_
        refine z_iconst dX3_voter_162 ?_
        have hend : spVo tp tl (9 - i) q seen wr = .inr (q, wr) := by rw [show 9 - i = (9 - (i + 1)) + 1 by omega, spVo, if_neg (by omega)]
        exact z_bret (b := true) rfl dX3_voter_163 (PQ.t (v := (q, addV h wr, b)) (by rw [spVot, if_neg (by omega), hsp, hend]) (f1.up (by decide)) (by rw [zu_ne (by decide), f2]) ⟨K1.of (zu_ne (by decide)) (fun j hj => by rw [zu_ne (by decide)]), V.end hv9 hw⟩)
      · have hk1 : kd tp tl q = 1 := by omega
        obtain ⟨hlt, hren⟩ := kd1_en hk1
        obtain ⟨e1, e2⟩ := T1.2.2 (sk tp tl q) hlt
        have helt := en_lt (tp := tp) (tl := tl) (p := q) (by omega)
        have hall := rn_all (tp := tp) (tl := tl) (lo := 97) (hi := 122) (p := sk tp tl q) (i := sk tp tl q) (by omega) (by rw [← hren]; omega)
        have hsu : spVo tp tl (9 - i) q seen wr = (if en tp tl q - sk tp tl q ≠ 1 ∨ ¬ tp (sk tp tl q) - 97 < 8 then .inl (1 + 8 * sk tp tl q) else if seen.testBit (tp (sk tp tl q) - 97) = true then .inl (3 + 8 * sk tp tl q) else match spWei tp tl (en tp tl q) with
            | .inl e => .inl e
            | .inr v => spVo tp tl (9 - (i + 1)) v.1 (seen ||| 2 ^ (tp (sk tp tl q) - 97)) (fun c => if c = tp (sk tp tl q) - 97 then v.2 else wr c)) := by
          rw [show 9 - i = (9 - (i + 1)) + 1 by omega]
          exact if_pos hk1
        refine z_aload_n 0 dX3_voter_51 rfl rfl ?_
        refine z_getr fl_RX3_9 (by decide) rfl rfl dX3_voter_52 ?_
        refine z_aload_n 0 dX3_voter_55 rfl rfl ?_
        refine z_geti fl_RX3_139 (by decide) rfl rfl dX3_voter_56 ?_
        rw [a2]
        refine z_iald (sk tp tl q) (by decide) rfl rfl (by omega) (by decide) dX3_voter_59 ?_
        refine z_bipush dX3_voter_60 (by decide) ?_
        rw [e1]
        refine z_isub dX3_voter_62 ?_
        refine z_top ((tp (sk tp tl q) - 97 : Nat) : Int) (by omega) ?_
        refine z_istore (L' := [(0, _), (1, _), (2, _), (3, _), (4, _)]) dX3_voter_63 (by decide) rfl rfl ?_
        refine z_aload_n 0 dX3_voter_65 rfl rfl ?_
        refine z_geti fl_RX3_44 (by decide) rfl rfl dX3_voter_66 ?_
        refine z_aload_n 0 dX3_voter_69 rfl rfl ?_
        refine z_geti fl_RX3_139 (by decide) rfl rfl dX3_voter_70 ?_
        rw [a3, a2]
        refine z_isub dX3_voter_73 ?_
        refine z_iconst dX3_voter_74 ?_
        refine z_icmp_ne 86 (by omega) (by omega) dX3_voter_75 (by decide) (fun h_75 => ?_) (fun h_75 => ?_)
        · refine z_aload_n 0 dX3_voter_86 rfl rfl ?_
          refine z_iconst dX3_voter_87 ?_
          refine z_cv (t_refuse l hg (k := 1) (s := sk tp tl q) a2) mk_X3_refuse mi_X3_refuse ml_RX3_87 (by omega) (by decide) rfl rfl rfl rfl (Nat.le_of_ble_eq_true rfl) dX3_voter_88 (fun r_88 d_88 q_88 => ?_)
          obtain ⟨rfl, rfl⟩ := q_88
          show zV l x g mX3_voter n _ _ _ [_] _
          exact z_bret rfl dX3_voter_91 (PQ.f (by rw [spVot, if_neg (by omega), hsp, hsu, if_pos (by omega)]) (f1.up (by decide)) (zu_at _ _ _ _))
        · refine z_iload 4 dX3_voter_78 rfl ?_
          refine z_cs (t_isClause l hg d1 (a := ((tp (sk tp tl q) - 97 : Nat) : Int)) (by omega)) mk_X7_isClause ms_X7_isClause ml_RX3_142 (by omega) rfl rfl (Nat.le_of_ble_eq_true rfl) dX3_voter_80 (zpure ?_)
          refine z_if_ne_b 92 dX3_voter_83 (by decide) (fun h_83 => ?_) (fun h_83 => ?_)
          · rw [decide_eq_true_eq] at h_83
            refine z_iload 4 dX3_voter_92 rfl ?_
            refine z_iload_n 2 dX3_voter_94 rfl rfl ?_
            refine z_cs (t_isIn l hg d1 (m := tp (sk tp tl q) - 97) (s := seen) (by omega) (by omega)) mk_X7_isIn ms_X7_isIn ml_RX3_145 (by omega) rfl rfl (Nat.le_of_ble_eq_true rfl) dX3_voter_95 (zpure ?_)
            refine z_if_eq_b 107 dX3_voter_98 (by decide) (fun h_98 => ?_) (fun h_98 => ?_)
            · refine z_iload_n 2 dX3_voter_107 rfl rfl ?_
              refine z_iconst dX3_voter_108 ?_
              refine z_iload 4 dX3_voter_109 rfl ?_
              have hpw : 2 ^ (tp (sk tp tl q) - 97) < 2 ^ 8 := Nat.pow_lt_pow_right (by decide) (by omega)
              refine z_ishl _ (zshl (s := 1) (m := tp (sk tp tl q) - 97) (by omega) (by omega)) dX3_voter_111 ?_
              rw [Nat.one_mul]
              refine z_ior _ (zor _ _) dX3_voter_112 ?_
              refine z_istore_n (L' := [(0, _), (1, _), (2, _), (3, _), (4, _)]) dX3_voter_113 rfl (by decide) rfl rfl ?_
              refine z_aload_n 0 dX3_voter_114 rfl rfl ?_
              refine z_cv (t_step l hg T1 (q := en tp tl q) a3 he1.2) mk_X3_step mi_X3_step ml_RX3_47 (by omega) (by decide) rfl rfl rfl rfl (Nat.le_of_ble_eq_true rfl) dX3_voter_115 (zvoid fun d_115 q_115 => ?_)
              obtain ⟨g1, K2⟩ := q_115
              refine z_aload_n 0 dX3_voter_118 rfl rfl ?_
              refine z_cv (t_signedWeight l hg K2) mk_X3_signedWeight mi_X3_signedWeight ml_RX3_149 (by omega) (by decide) rfl rfl rfl rfl (Nat.le_of_ble_eq_true rfl) dX3_voter_119 (z_pq (fun f_119 d_119 e_119 a_119 b_119 => ?_) (fun v_119 d_119 e_119 a_119 b_119 c_119 => ?_))
              · refine z_if_ne 127 (by decide) dX3_voter_122 (by decide) (fun h_122 => absurd h_122 (by decide)) (fun h_122 => ?_)
                refine z_iconst dX3_voter_125 ?_
                exact z_bret (b := false) rfl dX3_voter_126 (PQ.f (by rw [spVot, if_neg (by omega), hsp, hsu, if_neg (by omega), if_neg (by rw [h_98]; decide), e_119]) ((f1.tr g1.RG.DF).tr a_119) b_119)
              · obtain ⟨c1, c2, c3⟩ := c_119
                have hwo := spWei_ok (q := v_119.1) (y := v_119.2) he1.2 e_119
                refine z_if_ne 127 (by decide) dX3_voter_122 (by decide) (fun h_122 => ?_) (fun h_122 => absurd h_122 (by decide))
                refine z_aload_n 0 dX3_voter_127 rfl rfl ?_
                refine z_getr fl_RX3_15 (by decide) rfl rfl dX3_voter_128 ?_
                refine z_getr fl_RX3_152 (by decide) rfl rfl dX3_voter_131 ?_
                refine z_iload_n 1 dX3_voter_134 rfl rfl ?_
                refine z_iload 4 dX3_voter_135 rfl ?_
                refine z_iadd dX3_voter_137 ?_
                refine z_aload_n 0 dX3_voter_138 rfl rfl ?_
                refine z_geti fl_RX3_155 (by decide) rfl rfl dX3_voter_139 ?_
                rw [c3]
                refine z_iast (8 * hV h + (tp (sk tp tl q) - 97)) (by decide) rfl (by omega) (by omega) (by decide) dX3_voter_142 ?_
                refine z_iinc 3 (L' := [(0, _), (1, _), (2, _), (3, _), (4, _)]) dX3_voter_143 (by decide) rfl rfl rfl ?_
                refine z_goto 37 dX3_voter_146 (by decide) ?_
                refine z_sub (L' := [(0, _), (1, _), (2, _), (3, _)]) [0, 1, 2, 3] rfl ?_
                have aF : zF [16] d_119 (zu d_119 16 (8 * hV h + (tp (sk tp tl q) - 97)) v_119.2) := zF.rf.up (by decide)
                refine z_LL _ ?_ (ih (i + 1) v_119.1 (seen ||| 2 ^ (tp (sk tp tl q) - 97)) (fun c => if c = tp (sk tp tl q) - 97 then v_119.2 else wr c) _ (by omega) (by omega) (or_lt hse hpw) (c2.of (aF 1 (by decide)) (fun j hj => by rw [aF 20 (by decide)])) (((f1.tr g1.RG.DF).tr a_119).tr (DF.of aF (by decide))) (by rw [aF 20 (by decide), b_119, g1.2 4 (by decide) (by decide) (by decide) (by decide), f2]) (((V.of g1.1 (g1.2 3 (by decide) (by decide) (by decide) (by decide))).of c1.1 (c1.2 3 (by decide))).up (by omega)) (fun c => ?_) ?_)
                · rw [show (i : Int) + 1 = ((i + 1 : Nat) : Int) by omega]
                · split
                  · exact hwo.2.2
                  · exact hw c
                · rw [hsp, hsu, if_neg (by omega), if_neg (by rw [h_98]; decide), e_119]
            · refine z_aload_n 0 dX3_voter_101 rfl rfl ?_
              refine z_iconst dX3_voter_102 ?_
              refine z_cv (t_refuse l hg (k := 3) (s := sk tp tl q) a2) mk_X3_refuse mi_X3_refuse ml_RX3_87 (by omega) (by decide) rfl rfl rfl rfl (Nat.le_of_ble_eq_true rfl) dX3_voter_103 (fun r_103 d_103 q_103 => ?_)
              obtain ⟨rfl, rfl⟩ := q_103
              show zV l x g mX3_voter n _ _ _ [_] _
              exact z_bret rfl dX3_voter_106 (PQ.f (by rw [spVot, if_neg (by omega), hsp, hsu, if_neg (by omega), if_pos h_98]) (f1.up (by decide)) (zu_at _ _ _ _))
          · rw [decide_eq_false_iff_not] at h_83
            refine z_aload_n 0 dX3_voter_86 rfl rfl ?_
            refine z_iconst dX3_voter_87 ?_
            refine z_cv (t_refuse l hg (k := 1) (s := sk tp tl q) a2) mk_X3_refuse mi_X3_refuse ml_RX3_87 (by omega) (by decide) rfl rfl rfl rfl (Nat.le_of_ble_eq_true rfl) dX3_voter_88 (fun r_88 d_88 q_88 => ?_)
            obtain ⟨rfl, rfl⟩ := q_88
            show zV l x g mX3_voter n _ _ _ [_] _
            exact z_bret rfl dX3_voter_91 (PQ.f (by rw [spVot, if_neg (by omega), hsp, hsu, if_pos (by omega)]) (f1.up (by decide)) (zu_at _ _ _ _))
theorem t_voter (l : Launch) {g : zG} (hg : zAmOk g) {d : zD} {tp : Nat → Nat} {tl p : Nat} {h : Hl} {b : Bool} (K : TK d tp tl p) (H : HD d h b) : zC l g mX3_voter 4 [zr g 20] d (PQ d (spVot tp tl h b p) (okS tp tl)) := by
  obtain ⟨T, hp, k1, k2, k3, k4, k5⟩ := id K
  have he := en_le (tp := tp) hp
  have w4 := H.2.2.1.2.2.2.1
  obtain ⟨⟨h0, h1, h2, h3, h4, h5⟩, q2, q3, q4⟩ := id H.1
  refine zC_of (L := [(0, _)]) mk_X3_voter (Nat.le_of_ble_eq_true rfl) hg rfl (fun x => ?_)
  refine z_aload_n 0 dX3_voter_0 rfl rfl ?_
  refine z_getr fl_RX3_15 (by decide) rfl rfl dX3_voter_1 ?_
  refine z_geti fl_RX3_136 (by decide) rfl rfl dX3_voter_4 ?_
  refine z_bipush dX3_voter_7 (by decide) ?_
  rw [h4]
  refine z_icmp_lt 18 (by omega) (by omega) dX3_voter_9 (by decide) (fun h_9 => ?_) (fun h_9 => ?_)
  · refine z_aload_n 0 dX3_voter_18 rfl rfl ?_
    refine z_cv (t_step l hg T (q := en tp tl p) k3 he.2) mk_X3_step mi_X3_step ml_RX3_47 (by omega) (by decide) rfl rfl rfl rfl (Nat.le_of_ble_eq_true rfl) dX3_voter_19 (zvoid fun d_19 q_19 => ?_)
    obtain ⟨g1, K1⟩ := q_19
    have H1 : HD d_19 h b := H.of g1.1 (g1.2 3 (by decide) (by decide) (by decide) (by decide))
    refine z_aload_n 0 dX3_voter_22 rfl rfl ?_
    refine z_getr fl_RX3_15 (by decide) rfl rfl dX3_voter_23 ?_
    refine z_geti fl_RX3_136 (by decide) rfl rfl dX3_voter_26 ?_
    refine z_bipush dX3_voter_29 (by decide) ?_
    refine z_imul dX3_voter_31 ?_
    rw [H1.1.1.2.2.2.2.1]
    refine z_top ((8 * hV h : Nat) : Int) (by omega) ?_
    refine z_istore_n (L' := [(0, _), (1, _)]) dX3_voter_32 rfl (by decide) rfl rfl ?_
    refine z_iconst dX3_voter_33 ?_
    refine z_istore_n (L' := [(0, _), (1, _), (2, _)]) dX3_voter_34 rfl (by decide) rfl rfl ?_
    refine z_iconst dX3_voter_35 ?_
    refine z_istore_n (L' := [(0, _), (1, _), (2, _), (3, _)]) dX3_voter_36 rfl (by decide) rfl rfl ?_
    exact lp_voter hg (by omega) (by omega) 10 0 (en tp tl p) 0 (fun _ => 0) d_19 (by omega) (by omega) (by decide) K1 g1.RG.DF (g1.2 4 (by decide) (by decide) (by decide) (by decide)) ⟨H1.1, H1.2.1, H1.2.2.1, fun c hc => H1.2.2.2 _ (by omega) (by omega), fun i h1 h2 => H1.2.2.2 i (by omega) h2⟩ (fun c => by omega) rfl
  · refine z_aload_n 0 dX3_voter_12 rfl rfl ?_
    refine z_iconst dX3_voter_13 ?_
    refine z_cv (t_refuse l hg (k := 4) (s := sk tp tl p) k2) mk_X3_refuse mi_X3_refuse ml_RX3_87 (by omega) (by decide) rfl rfl rfl rfl (Nat.le_of_ble_eq_true rfl) dX3_voter_14 (fun r_14 d_14 q_14 => ?_)
    obtain ⟨rfl, rfl⟩ := q_14
    show zV l x g mX3_voter 4 _ _ _ [_] _
    exact z_bret rfl dX3_voter_17 (PQ.f (by rw [spVot, if_pos (by omega)]) (DF.rf.up (by decide)) (zu_at _ _ _ _))
theorem t_statement (l : Launch) {g : zG} (hg : zAmOk g) {adK adV : Nat → Nat} (hs : zStr g adK adV) {d : zD} {tp : Nat → Nat} {tl p : Nat} {h : Hl} {b : Bool} (K : TK d tp tl p) (H : HD d h b) : zC l g mX3_statement 11 [zr g 20] d (PQ d (spSe tp tl h b p) (okS tp tl)) := by
  obtain ⟨T, hp, k1, k2, k3, k4, k5⟩ := id K
  refine zC_of (L := [(0, _)]) mk_X3_statement (Nat.le_of_ble_eq_true rfl) hg rfl (fun x => ?_)
  refine z_aload_n 0 dX3_statement_0 rfl rfl ?_
  refine z_ldcs hs (i := 0) (by decide) rfl rfl dX3_statement_1 ?_
  refine z_cv (t_isWord l hg hs K (i := 0) (by decide)) mk_X3_isWord mi_X3_isWord ml_RX3_59 (by omega) (by decide) rfl rfl rfl rfl (Nat.le_of_ble_eq_true rfl) dX3_statement_3 (zpure ?_)
  refine z_if_eq_b 17 dX3_statement_6 (by decide) (fun h_6 => ?_) (fun h_6 => ?_)
  · refine z_aload_n 0 dX3_statement_17 rfl rfl ?_
    refine z_ldcs hs (i := 1) (by decide) rfl rfl dX3_statement_18 ?_
    refine z_cv (t_isWord l hg hs K (i := 1) (by decide)) mk_X3_isWord mi_X3_isWord ml_RX3_59 (by omega) (by decide) rfl rfl rfl rfl (Nat.le_of_ble_eq_true rfl) dX3_statement_20 (zpure ?_)
    refine z_if_eq_b 34 dX3_statement_23 (by decide) (fun h_23 => ?_) (fun h_23 => ?_)
    · refine z_aload_n 0 dX3_statement_34 rfl rfl ?_
      refine z_ldcs hs (i := 2) (by decide) rfl rfl dX3_statement_35 ?_
      refine z_cv (t_isWord l hg hs K (i := 2) (by decide)) mk_X3_isWord mi_X3_isWord ml_RX3_59 (by omega) (by decide) rfl rfl rfl rfl (Nat.le_of_ble_eq_true rfl) dX3_statement_37 (zpure ?_)
      refine z_if_eq_b 51 dX3_statement_40 (by decide) (fun h_40 => ?_) (fun h_40 => ?_)
      · refine z_aload_n 0 dX3_statement_51 rfl rfl ?_
        refine z_ldcs hs (i := 3) (by decide) rfl rfl dX3_statement_52 ?_
        refine z_cv (t_isWord l hg hs K (i := 3) (by decide)) mk_X3_isWord mi_X3_isWord ml_RX3_59 (by omega) (by decide) rfl rfl rfl rfl (Nat.le_of_ble_eq_true rfl) dX3_statement_54 (zpure ?_)
        refine z_if_eq_b 68 dX3_statement_57 (by decide) (fun h_57 => ?_) (fun h_57 => ?_)
        · refine z_aload_n 0 dX3_statement_68 rfl rfl ?_
          refine z_ldcs hs (i := 4) (by decide) rfl rfl dX3_statement_69 ?_
          refine z_cv (t_isWord l hg hs K (i := 4) (by decide)) mk_X3_isWord mi_X3_isWord ml_RX3_59 (by omega) (by decide) rfl rfl rfl rfl (Nat.le_of_ble_eq_true rfl) dX3_statement_71 (zpure ?_)
          refine z_if_eq_b 85 dX3_statement_74 (by decide) (fun h_74 => ?_) (fun h_74 => ?_)
          · refine z_aload_n 0 dX3_statement_85 rfl rfl ?_
            refine z_ldcs hs (i := 5) (by decide) rfl rfl dX3_statement_86 ?_
            refine z_cv (t_isWord l hg hs K (i := 5) (by decide)) mk_X3_isWord mi_X3_isWord ml_RX3_59 (by omega) (by decide) rfl rfl rfl rfl (Nat.le_of_ble_eq_true rfl) dX3_statement_88 (zpure ?_)
            refine z_if_eq_b 102 dX3_statement_91 (by decide) (fun h_91 => ?_) (fun h_91 => ?_)
            · have hst : spSt tp tl h b p = .inl (1 + 8 * sk tp tl p) := by rw [spSt, if_neg (by rw [h_6]; decide), if_neg (by rw [h_23]; decide), if_neg (by rw [h_40]; decide), if_neg (by rw [h_57]; decide), if_neg (by rw [h_74]; decide), if_neg (by rw [h_91]; decide)]
              refine z_aload_n 0 dX3_statement_102 rfl rfl ?_
              refine z_iconst dX3_statement_103 ?_
              refine z_cv (t_refuse l hg (k := 1) (s := sk tp tl p) k2) mk_X3_refuse mi_X3_refuse ml_RX3_87 (by omega) (by decide) rfl rfl rfl rfl (Nat.le_of_ble_eq_true rfl) dX3_statement_104 (fun r_104 d_104 q_104 => ?_)
              obtain ⟨rfl, rfl⟩ := q_104
              show zV l x g mX3_statement 11 _ _ _ [_] _
              refine z_istore_n (L' := [(0, _), (1, _)]) dX3_statement_107 rfl (by decide) rfl rfl ?_
              refine z_iload_n 1 dX3_statement_108 rfl rfl ?_
              refine z_if_eq_b 123 dX3_statement_109 (by decide) (fun h_109 => ?_) (fun h_109 => absurd h_109 (by decide))
              refine z_iconst dX3_statement_123 ?_
              exact z_bret (b := false) rfl dX3_statement_124 (PQ.f (by rw [spSe, hst]) (DF.rf.up (by decide)) (zu_at _ _ _ _))
            · have hst : spSt tp tl h b p = spQuo tp tl h b p := by rw [spSt, if_neg (by rw [h_6]; decide), if_neg (by rw [h_23]; decide), if_neg (by rw [h_40]; decide), if_neg (by rw [h_57]; decide), if_neg (by rw [h_74]; decide), if_pos h_91]
              refine z_aload_n 0 dX3_statement_94 rfl rfl ?_
              refine z_cv (t_quota l hg K H) mk_X3_quota mi_X3_quota ml_RX3_85 (by omega) (by decide) rfl rfl rfl rfl (Nat.le_of_ble_eq_true rfl) dX3_statement_95 (z_pq (fun f_95 d_95 e_95 a_95 b_95 => ?_) (fun v_95 d_95 e_95 a_95 b_95 c_95 => ?_))
              · refine z_istore_n (L' := [(0, _), (1, _)]) dX3_statement_98 rfl (by decide) rfl rfl ?_
                refine z_goto 108 dX3_statement_99 (by decide) ?_
                refine z_iload_n 1 dX3_statement_108 rfl rfl ?_
                refine z_if_eq_b 123 dX3_statement_109 (by decide) (fun h_109 => ?_) (fun h_109 => absurd h_109 (by decide))
                refine z_iconst dX3_statement_123 ?_
                exact z_bret (b := false) rfl dX3_statement_124 (PQ.f (by rw [spSe, hst, e_95]) a_95 b_95)
              · refine z_istore_n (L' := [(0, _), (1, _)]) dX3_statement_98 rfl (by decide) rfl rfl ?_
                refine z_goto 108 dX3_statement_99 (by decide) ?_
                refine z_iload_n 1 dX3_statement_108 rfl rfl ?_
                refine z_if_eq_b 123 dX3_statement_109 (by decide) (fun h_109 => absurd h_109 (by decide)) (fun h_109 => ?_)
                refine z_aload_n 0 dX3_statement_112 rfl rfl ?_
                refine z_cv (t_semicolon l hg c_95.1) mk_X3_semicolon mi_X3_semicolon ml_RX3_91 (by omega) (by decide) rfl rfl rfl rfl (Nat.le_of_ble_eq_true rfl) dX3_statement_113 (z_pq (fun f_113 d_113 e_113 a_113 b_113 => ?_) (fun v_113 d_113 e_113 a_113 b_113 c_113 => ?_))
                · obtain ⟨h_s, rfl⟩ := ifs_f e_113
                  refine z_if_eq 123 (by decide) dX3_statement_116 (by decide) (fun h_116 => ?_) (fun h_116 => absurd h_116 (by decide))
                  refine z_iconst dX3_statement_123 ?_
                  exact z_bret (b := false) rfl dX3_statement_124 (PQ.f (by rw [spSe, hst, e_95]; dsimp only; rw [if_neg h_s]) (a_95.tr a_113) b_113)
                · obtain ⟨h_s, rfl⟩ := ifs_t e_113
                  refine z_if_eq 123 (by decide) dX3_statement_116 (by decide) (fun h_116 => absurd h_116 (by decide)) (fun h_116 => ?_)
                  refine z_iconst dX3_statement_119 ?_
                  refine z_goto 124 dX3_statement_120 (by decide) ?_
                  exact z_bret (b := true) rfl dX3_statement_124 (PQ.t (v := (en tp tl v_95.1, v_95.2)) (by rw [spSe, hst, e_95]; dsimp only; rw [if_pos h_s]) (a_95.tr a_113) (by rw [b_113, b_95]) ⟨c_113.2, c_95.2.of c_113.1.1 (c_113.1.2 3 (by decide))⟩)
          · have hst : spSt tp tl h b p = spJoi tp tl h b p := by rw [spSt, if_neg (by rw [h_6]; decide), if_neg (by rw [h_23]; decide), if_neg (by rw [h_40]; decide), if_neg (by rw [h_57]; decide), if_pos h_74]
            refine z_aload_n 0 dX3_statement_77 rfl rfl ?_
            refine z_cv (t_joint l hg K H) mk_X3_joint mi_X3_joint ml_RX3_81 (by omega) (by decide) rfl rfl rfl rfl (Nat.le_of_ble_eq_true rfl) dX3_statement_78 (z_pq (fun f_78 d_78 e_78 a_78 b_78 => ?_) (fun v_78 d_78 e_78 a_78 b_78 c_78 => ?_))
            · refine z_istore_n (L' := [(0, _), (1, _)]) dX3_statement_81 rfl (by decide) rfl rfl ?_
              refine z_goto 108 dX3_statement_82 (by decide) ?_
              refine z_iload_n 1 dX3_statement_108 rfl rfl ?_
              refine z_if_eq_b 123 dX3_statement_109 (by decide) (fun h_109 => ?_) (fun h_109 => absurd h_109 (by decide))
              refine z_iconst dX3_statement_123 ?_
              exact z_bret (b := false) rfl dX3_statement_124 (PQ.f (by rw [spSe, hst, e_78]) a_78 b_78)
            · refine z_istore_n (L' := [(0, _), (1, _)]) dX3_statement_81 rfl (by decide) rfl rfl ?_
              refine z_goto 108 dX3_statement_82 (by decide) ?_
              refine z_iload_n 1 dX3_statement_108 rfl rfl ?_
              refine z_if_eq_b 123 dX3_statement_109 (by decide) (fun h_109 => absurd h_109 (by decide)) (fun h_109 => ?_)
              refine z_aload_n 0 dX3_statement_112 rfl rfl ?_
              refine z_cv (t_semicolon l hg c_78.1) mk_X3_semicolon mi_X3_semicolon ml_RX3_91 (by omega) (by decide) rfl rfl rfl rfl (Nat.le_of_ble_eq_true rfl) dX3_statement_113 (z_pq (fun f_113 d_113 e_113 a_113 b_113 => ?_) (fun v_113 d_113 e_113 a_113 b_113 c_113 => ?_))
              · obtain ⟨h_s, rfl⟩ := ifs_f e_113
                refine z_if_eq 123 (by decide) dX3_statement_116 (by decide) (fun h_116 => ?_) (fun h_116 => absurd h_116 (by decide))
                refine z_iconst dX3_statement_123 ?_
                exact z_bret (b := false) rfl dX3_statement_124 (PQ.f (by rw [spSe, hst, e_78]; dsimp only; rw [if_neg h_s]) (a_78.tr a_113) b_113)
              · obtain ⟨h_s, rfl⟩ := ifs_t e_113
                refine z_if_eq 123 (by decide) dX3_statement_116 (by decide) (fun h_116 => absurd h_116 (by decide)) (fun h_116 => ?_)
                refine z_iconst dX3_statement_119 ?_
                refine z_goto 124 dX3_statement_120 (by decide) ?_
                exact z_bret (b := true) rfl dX3_statement_124 (PQ.t (v := (en tp tl v_78.1, v_78.2)) (by rw [spSe, hst, e_78]; dsimp only; rw [if_pos h_s]) (a_78.tr a_113) (by rw [b_113, b_78]) ⟨c_113.2, c_78.2.of c_113.1.1 (c_113.1.2 3 (by decide))⟩)
        · have hst : spSt tp tl h b p = spVot tp tl h b p := by rw [spSt, if_neg (by rw [h_6]; decide), if_neg (by rw [h_23]; decide), if_neg (by rw [h_40]; decide), if_pos h_57]
          refine z_aload_n 0 dX3_statement_60 rfl rfl ?_
          refine z_cv (t_voter l hg K H) mk_X3_voter mi_X3_voter ml_RX3_77 (by omega) (by decide) rfl rfl rfl rfl (Nat.le_of_ble_eq_true rfl) dX3_statement_61 (z_pq (fun f_61 d_61 e_61 a_61 b_61 => ?_) (fun v_61 d_61 e_61 a_61 b_61 c_61 => ?_))
          · refine z_istore_n (L' := [(0, _), (1, _)]) dX3_statement_64 rfl (by decide) rfl rfl ?_
            refine z_goto 108 dX3_statement_65 (by decide) ?_
            refine z_iload_n 1 dX3_statement_108 rfl rfl ?_
            refine z_if_eq_b 123 dX3_statement_109 (by decide) (fun h_109 => ?_) (fun h_109 => absurd h_109 (by decide))
            refine z_iconst dX3_statement_123 ?_
            exact z_bret (b := false) rfl dX3_statement_124 (PQ.f (by rw [spSe, hst, e_61]) a_61 b_61)
          · refine z_istore_n (L' := [(0, _), (1, _)]) dX3_statement_64 rfl (by decide) rfl rfl ?_
            refine z_goto 108 dX3_statement_65 (by decide) ?_
            refine z_iload_n 1 dX3_statement_108 rfl rfl ?_
            refine z_if_eq_b 123 dX3_statement_109 (by decide) (fun h_109 => absurd h_109 (by decide)) (fun h_109 => ?_)
            refine z_aload_n 0 dX3_statement_112 rfl rfl ?_
            refine z_cv (t_semicolon l hg c_61.1) mk_X3_semicolon mi_X3_semicolon ml_RX3_91 (by omega) (by decide) rfl rfl rfl rfl (Nat.le_of_ble_eq_true rfl) dX3_statement_113 (z_pq (fun f_113 d_113 e_113 a_113 b_113 => ?_) (fun v_113 d_113 e_113 a_113 b_113 c_113 => ?_))
            · obtain ⟨h_s, rfl⟩ := ifs_f e_113
              refine z_if_eq 123 (by decide) dX3_statement_116 (by decide) (fun h_116 => ?_) (fun h_116 => absurd h_116 (by decide))
              refine z_iconst dX3_statement_123 ?_
              exact z_bret (b := false) rfl dX3_statement_124 (PQ.f (by rw [spSe, hst, e_61]; dsimp only; rw [if_neg h_s]) (a_61.tr a_113) b_113)
            · obtain ⟨h_s, rfl⟩ := ifs_t e_113
              refine z_if_eq 123 (by decide) dX3_statement_116 (by decide) (fun h_116 => absurd h_116 (by decide)) (fun h_116 => ?_)
              refine z_iconst dX3_statement_119 ?_
              refine z_goto 124 dX3_statement_120 (by decide) ?_
              exact z_bret (b := true) rfl dX3_statement_124 (PQ.t (v := (en tp tl v_61.1, v_61.2)) (by rw [spSe, hst, e_61]; dsimp only; rw [if_pos h_s]) (a_61.tr a_113) (by rw [b_113, b_61]) ⟨c_113.2, c_61.2.of c_113.1.1 (c_113.1.2 3 (by decide))⟩)
      · have hst : spSt tp tl h b p = spSub tp tl h b p := by rw [spSt, if_neg (by rw [h_6]; decide), if_neg (by rw [h_23]; decide), if_pos h_40]
        refine z_aload_n 0 dX3_statement_43 rfl rfl ?_
        refine z_cv (t_substitute l hg K H) mk_X3_substitute mi_X3_substitute ml_RX3_72 (by omega) (by decide) rfl rfl rfl rfl (Nat.le_of_ble_eq_true rfl) dX3_statement_44 (z_pq (fun f_44 d_44 e_44 a_44 b_44 => ?_) (fun v_44 d_44 e_44 a_44 b_44 c_44 => ?_))
        · refine z_istore_n (L' := [(0, _), (1, _)]) dX3_statement_47 rfl (by decide) rfl rfl ?_
          refine z_goto 108 dX3_statement_48 (by decide) ?_
          refine z_iload_n 1 dX3_statement_108 rfl rfl ?_
          refine z_if_eq_b 123 dX3_statement_109 (by decide) (fun h_109 => ?_) (fun h_109 => absurd h_109 (by decide))
          refine z_iconst dX3_statement_123 ?_
          exact z_bret (b := false) rfl dX3_statement_124 (PQ.f (by rw [spSe, hst, e_44]) a_44 b_44)
        · refine z_istore_n (L' := [(0, _), (1, _)]) dX3_statement_47 rfl (by decide) rfl rfl ?_
          refine z_goto 108 dX3_statement_48 (by decide) ?_
          refine z_iload_n 1 dX3_statement_108 rfl rfl ?_
          refine z_if_eq_b 123 dX3_statement_109 (by decide) (fun h_109 => absurd h_109 (by decide)) (fun h_109 => ?_)
          refine z_aload_n 0 dX3_statement_112 rfl rfl ?_
          refine z_cv (t_semicolon l hg c_44.1) mk_X3_semicolon mi_X3_semicolon ml_RX3_91 (by omega) (by decide) rfl rfl rfl rfl (Nat.le_of_ble_eq_true rfl) dX3_statement_113 (z_pq (fun f_113 d_113 e_113 a_113 b_113 => ?_) (fun v_113 d_113 e_113 a_113 b_113 c_113 => ?_))
          · obtain ⟨h_s, rfl⟩ := ifs_f e_113
            refine z_if_eq 123 (by decide) dX3_statement_116 (by decide) (fun h_116 => ?_) (fun h_116 => absurd h_116 (by decide))
            refine z_iconst dX3_statement_123 ?_
            exact z_bret (b := false) rfl dX3_statement_124 (PQ.f (by rw [spSe, hst, e_44]; dsimp only; rw [if_neg h_s]) (a_44.tr a_113) b_113)
          · obtain ⟨h_s, rfl⟩ := ifs_t e_113
            refine z_if_eq 123 (by decide) dX3_statement_116 (by decide) (fun h_116 => absurd h_116 (by decide)) (fun h_116 => ?_)
            refine z_iconst dX3_statement_119 ?_
            refine z_goto 124 dX3_statement_120 (by decide) ?_
            exact z_bret (b := true) rfl dX3_statement_124 (PQ.t (v := (en tp tl v_44.1, v_44.2)) (by rw [spSe, hst, e_44]; dsimp only; rw [if_pos h_s]) (a_44.tr a_113) (by rw [b_113, b_44]) ⟨c_113.2, c_44.2.of c_113.1.1 (c_113.1.2 3 (by decide))⟩)
    · have hst : spSt tp tl h b p = spAm tp tl h b p := by rw [spSt, if_neg (by rw [h_6]; decide), if_pos h_23]
      refine z_aload_n 0 dX3_statement_26 rfl rfl ?_
      refine z_cv (t_amendment l hg hs K H) mk_X3_amendment mi_X3_amendment ml_RX3_67 (by omega) (by decide) rfl rfl rfl rfl (Nat.le_of_ble_eq_true rfl) dX3_statement_27 (z_pq (fun f_27 d_27 e_27 a_27 b_27 => ?_) (fun v_27 d_27 e_27 a_27 b_27 c_27 => ?_))
      · refine z_istore_n (L' := [(0, _), (1, _)]) dX3_statement_30 rfl (by decide) rfl rfl ?_
        refine z_goto 108 dX3_statement_31 (by decide) ?_
        refine z_iload_n 1 dX3_statement_108 rfl rfl ?_
        refine z_if_eq_b 123 dX3_statement_109 (by decide) (fun h_109 => ?_) (fun h_109 => absurd h_109 (by decide))
        refine z_iconst dX3_statement_123 ?_
        exact z_bret (b := false) rfl dX3_statement_124 (PQ.f (by rw [spSe, hst, e_27]) a_27 b_27)
      · refine z_istore_n (L' := [(0, _), (1, _)]) dX3_statement_30 rfl (by decide) rfl rfl ?_
        refine z_goto 108 dX3_statement_31 (by decide) ?_
        refine z_iload_n 1 dX3_statement_108 rfl rfl ?_
        refine z_if_eq_b 123 dX3_statement_109 (by decide) (fun h_109 => absurd h_109 (by decide)) (fun h_109 => ?_)
        refine z_aload_n 0 dX3_statement_112 rfl rfl ?_
        refine z_cv (t_semicolon l hg c_27.1) mk_X3_semicolon mi_X3_semicolon ml_RX3_91 (by omega) (by decide) rfl rfl rfl rfl (Nat.le_of_ble_eq_true rfl) dX3_statement_113 (z_pq (fun f_113 d_113 e_113 a_113 b_113 => ?_) (fun v_113 d_113 e_113 a_113 b_113 c_113 => ?_))
        · obtain ⟨h_s, rfl⟩ := ifs_f e_113
          refine z_if_eq 123 (by decide) dX3_statement_116 (by decide) (fun h_116 => ?_) (fun h_116 => absurd h_116 (by decide))
          refine z_iconst dX3_statement_123 ?_
          exact z_bret (b := false) rfl dX3_statement_124 (PQ.f (by rw [spSe, hst, e_27]; dsimp only; rw [if_neg h_s]) (a_27.tr a_113) b_113)
        · obtain ⟨h_s, rfl⟩ := ifs_t e_113
          refine z_if_eq 123 (by decide) dX3_statement_116 (by decide) (fun h_116 => absurd h_116 (by decide)) (fun h_116 => ?_)
          refine z_iconst dX3_statement_119 ?_
          refine z_goto 124 dX3_statement_120 (by decide) ?_
          exact z_bret (b := true) rfl dX3_statement_124 (PQ.t (v := (en tp tl v_27.1, v_27.2)) (by rw [spSe, hst, e_27]; dsimp only; rw [if_pos h_s]) (a_27.tr a_113) (by rw [b_113, b_27]) ⟨c_113.2, c_27.2.of c_113.1.1 (c_113.1.2 3 (by decide))⟩)
  · have hst : spSt tp tl h b p = spBill tp tl h b p := by rw [spSt, if_pos h_6]
    refine z_aload_n 0 dX3_statement_9 rfl rfl ?_
    refine z_cv (t_bill l hg K H) mk_X3_bill mi_X3_bill ml_RX3_63 (by omega) (by decide) rfl rfl rfl rfl (Nat.le_of_ble_eq_true rfl) dX3_statement_10 (z_pq (fun f_10 d_10 e_10 a_10 b_10 => ?_) (fun v_10 d_10 e_10 a_10 b_10 c_10 => ?_))
    · refine z_istore_n (L' := [(0, _), (1, _)]) dX3_statement_13 rfl (by decide) rfl rfl ?_
      refine z_goto 108 dX3_statement_14 (by decide) ?_
      refine z_iload_n 1 dX3_statement_108 rfl rfl ?_
      refine z_if_eq_b 123 dX3_statement_109 (by decide) (fun h_109 => ?_) (fun h_109 => absurd h_109 (by decide))
      refine z_iconst dX3_statement_123 ?_
      exact z_bret (b := false) rfl dX3_statement_124 (PQ.f (by rw [spSe, hst, e_10]) a_10 b_10)
    · refine z_istore_n (L' := [(0, _), (1, _)]) dX3_statement_13 rfl (by decide) rfl rfl ?_
      refine z_goto 108 dX3_statement_14 (by decide) ?_
      refine z_iload_n 1 dX3_statement_108 rfl rfl ?_
      refine z_if_eq_b 123 dX3_statement_109 (by decide) (fun h_109 => absurd h_109 (by decide)) (fun h_109 => ?_)
      refine z_aload_n 0 dX3_statement_112 rfl rfl ?_
      refine z_cv (t_semicolon l hg c_10.1) mk_X3_semicolon mi_X3_semicolon ml_RX3_91 (by omega) (by decide) rfl rfl rfl rfl (Nat.le_of_ble_eq_true rfl) dX3_statement_113 (z_pq (fun f_113 d_113 e_113 a_113 b_113 => ?_) (fun v_113 d_113 e_113 a_113 b_113 c_113 => ?_))
      · obtain ⟨h_s, rfl⟩ := ifs_f e_113
        refine z_if_eq 123 (by decide) dX3_statement_116 (by decide) (fun h_116 => ?_) (fun h_116 => absurd h_116 (by decide))
        refine z_iconst dX3_statement_123 ?_
        exact z_bret (b := false) rfl dX3_statement_124 (PQ.f (by rw [spSe, hst, e_10]; dsimp only; rw [if_neg h_s]) (a_10.tr a_113) b_113)
      · obtain ⟨h_s, rfl⟩ := ifs_t e_113
        refine z_if_eq 123 (by decide) dX3_statement_116 (by decide) (fun h_116 => absurd h_116 (by decide)) (fun h_116 => ?_)
        refine z_iconst dX3_statement_119 ?_
        refine z_goto 124 dX3_statement_120 (by decide) ?_
        exact z_bret (b := true) rfl dX3_statement_124 (PQ.t (v := (en tp tl v_10.1, v_10.2)) (by rw [spSe, hst, e_10]; dsimp only; rw [if_pos h_s]) (a_10.tr a_113) (by rw [b_113, b_10]) ⟨c_113.2, c_10.2.of c_113.1.1 (c_113.1.2 3 (by decide))⟩)
