/-! the class: calls that change -/
theorem t_order (l : Launch) {g : zG} (hg : zAmOk g) {d : zD} {h : Hl} {ord : Nat → Nat} {tl : Nat} {tp : Nat → Nat} {fl : Int} (I : IC d h ord tl tp fl) {a : Int} (ha : zin a) : zC l g mX7_order 5 [zr g 0, zi a] d (askQ d h (if takesB h ord a = true then dig a.toNat else ord) tl tp fl (zb (takesB h ord a))) := by
  obtain ⟨w, H, K, D, O, R, ho, ⟨b, i8, i9⟩, ⟨j1, j2, j3⟩, j4⟩ := id I
  refine zC_of (L := [(0, _), (1, _)]) mk_X7_order (Nat.le_of_ble_eq_true rfl) hg rfl (fun x => ?_)
  refine z_aload_n 0 dX7_order_0 rfl rfl ?_
  refine z_getr fl_RX7_37 (by decide) rfl rfl dX7_order_1 ?_
  refine z_iload_n 1 dX7_order_4 rfl rfl ?_
  refine z_cv (t_takeRow l hg w H R ho ha) mk_X0_takeRow mi_X0_takeRow ml_RX7_113 (by omega) (by decide) rfl rfl rfl rfl (Nat.le_of_ble_eq_true rfl) dX7_order_5 (fun r_5 d_5 q_5 => ?_)
  obtain ⟨rfl, f1, R1⟩ := q_5
  show zV l x g mX7_order 5 _ _ _ [_] _
  have hO : Ord (hN h) (if takesB h ord a = true then dig a.toNat else ord) := by
    split
    · rename_i e
      rw [takesB, Bool.and_eq_true, rowOk, Bool.and_eq_true] at e
      exact good_Ord e.2.2
    · exact ho
  exact z_bret rfl dX7_order_8 (⟨rfl, CF.of f1 (by decide), w, f1.HC (by decide) H, K.of (f1 25 (by decide)), D.of (f1 27 (by decide)), O.of (f1 32 (by decide)) (f1 33 (by decide)), R1, hO, ⟨b, by rw [f1 32 (by decide)]; exact i8, fun hb => (i9 hb).of (f1 32 (by decide)) (f1 35 (by decide)) (f1 36 (by decide))⟩, ⟨by rw [f1 0 (by decide)]; exact j1, j2, fun i hi => by rw [f1 1 (by decide)]; exact j3 i hi⟩, by rw [f1 0 (by decide)]; exact j4⟩)
def cntS (h : Hl) (tl : Nat) (a : Int) : Int := if a = 0 then (hN h : Int) else if a = 1 then (hV h : Int) else if a = 2 then (hJ h : Int) else if a = 3 then (quotaF h : Nat) else if a = 4 then (hB h : Int) else if a = 5 then (wayC h (2 ^ hN h - 1) : Nat) else if a = 6 then (tl : Int) else if a = 7 then ((openL h).length : Int) else -1
theorem t_count (l : Launch) {g : zG} (hg : zAmOk g) {d : zD} {h : Hl} {ord : Nat → Nat} {tl : Nat} {tp : Nat → Nat} {fl : Int} (I : IC d h ord tl tp fl) {a : Int} (ha : zin a) : zC l g mX7_count 4 [zr g 0, zi a] d (askQ d h ord tl tp fl (cntS h tl a)) := by
  obtain ⟨w, H, K, D, O, R, ho, ⟨b, i8, i9⟩, ⟨j1, j2, j3⟩, j4⟩ := id I
  obtain ⟨⟨h0, h1, h2, h3, h4, h5⟩, -⟩ := id H
  refine zC_of (L := [(0, _), (1, _)]) mk_X7_count (Nat.le_of_ble_eq_true rfl) hg rfl (fun x => ?_)
  refine z_iload_n 1 dX7_count_0 rfl rfl ?_
  by_cases hr : 0 ≤ a ∧ a ≤ 7
  · rcases (show a = 0 ∨ a = 1 ∨ a = 2 ∨ a = 3 ∨ a = 4 ∨ a = 5 ∨ a = 6 ∨ a = 7 by omega) with rfl | rfl | rfl | rfl | rfl | rfl | rfl | rfl
    · refine z_tabIn 48 0 rfl (by decide) (by decide) (by decide) rfl (by decide) dX7_count_1 ?_
      refine z_aload_n 0 dX7_count_48 rfl rfl ?_
      refine z_getr fl_RX7_16 (by decide) rfl rfl dX7_count_49 ?_
      refine z_geti fl_RX7_116 (by decide) rfl rfl dX7_count_52 ?_
      exact z_iret rfl dX7_count_55 (askQ.rf I h3)
    · refine z_tabIn 56 1 rfl (by decide) (by decide) (by decide) rfl (by decide) dX7_count_1 ?_
      refine z_aload_n 0 dX7_count_56 rfl rfl ?_
      refine z_getr fl_RX7_16 (by decide) rfl rfl dX7_count_57 ?_
      refine z_geti fl_RX7_119 (by decide) rfl rfl dX7_count_60 ?_
      exact z_iret rfl dX7_count_63 (askQ.rf I h4)
    · refine z_tabIn 64 2 rfl (by decide) (by decide) (by decide) rfl (by decide) dX7_count_1 ?_
      refine z_aload_n 0 dX7_count_64 rfl rfl ?_
      refine z_getr fl_RX7_16 (by decide) rfl rfl dX7_count_65 ?_
      refine z_geti fl_RX7_122 (by decide) rfl rfl dX7_count_68 ?_
      exact z_iret rfl dX7_count_71 (askQ.rf I h5)
    · refine z_tabIn 72 3 rfl (by decide) (by decide) (by decide) rfl (by decide) dX7_count_1 ?_
      refine z_aload_n 0 dX7_count_72 rfl rfl ?_
      refine z_getr fl_RX7_16 (by decide) rfl rfl dX7_count_73 ?_
      refine z_cv (t_quotaInForce l hg w H) mk_X2_quotaInForce mi_X2_quotaInForce ml_RX7_125 (by omega) (by decide) rfl rfl rfl rfl (Nat.le_of_ble_eq_true rfl) dX7_count_76 (zpure ?_)
      exact z_iret rfl dX7_count_79 (askQ.rf I rfl)
    · refine z_tabIn 80 4 rfl (by decide) (by decide) (by decide) rfl (by decide) dX7_count_1 ?_
      refine z_aload_n 0 dX7_count_80 rfl rfl ?_
      refine z_getr fl_RX7_16 (by decide) rfl rfl dX7_count_81 ?_
      refine z_geti fl_RX7_129 (by decide) rfl rfl dX7_count_84 ?_
      exact z_iret rfl dX7_count_87 (askQ.rf I h0)
    · refine z_tabIn 88 5 rfl (by decide) (by decide) (by decide) rfl (by decide) dX7_count_1 ?_
      refine z_aload_n 0 dX7_count_88 rfl rfl ?_
      refine z_getr fl_RX7_37 (by decide) rfl rfl dX7_count_89 ?_
      refine z_cv (t_countGood l hg w H) mk_X0_countGood mi_X0_countGood ml_RX7_132 (by omega) (by decide) rfl rfl rfl rfl (Nat.le_of_ble_eq_true rfl) dX7_count_92 (fun r_92 d_92 q_92 => ?_)
      obtain ⟨rfl, f1⟩ := q_92
      show zV l x g mX7_count 4 _ _ _ [_] _
      exact z_iret rfl dX7_count_95 (⟨rfl, CF.of f1 (by decide), I.of f1 (by decide)⟩)
    · refine z_tabIn 96 6 rfl (by decide) (by decide) (by decide) rfl (by decide) dX7_count_1 ?_
      refine z_aload_n 0 dX7_count_96 rfl rfl ?_
      refine z_geti fl_RX7_76 (by decide) rfl rfl dX7_count_97 ?_
      exact z_iret rfl dX7_count_100 (askQ.rf I j1)
    · refine z_tabIn 101 7 rfl (by decide) (by decide) (by decide) rfl (by decide) dX7_count_1 ?_
      refine z_aload_n 0 dX7_count_101 rfl rfl ?_
      refine z_getr fl_RX7_69 (by decide) rfl rfl dX7_count_102 ?_
      refine z_geti fl_RX7_135 (by decide) rfl rfl dX7_count_105 ?_
      exact z_iret rfl dX7_count_108 (askQ.rf I O.1)
  · refine z_tabOut 109 ha (by omega) (by decide) dX7_count_1 ?_
    refine z_iconst dX7_count_109 ?_
    exact z_iret rfl dX7_count_110 (askQ.rf I (by unfold cntS; rw [if_neg (by omega), if_neg (by omega), if_neg (by omega), if_neg (by omega), if_neg (by omega), if_neg (by omega), if_neg (by omega), if_neg (by omega)]))
/-- a byte of a number -/
def byB (a : Int) (k : Nat) : Nat := (a % 4294967296).toNat / 2 ^ k % 256
/-- four bytes more behind a tape -/
def tpA (tp : Nat → Nat) (tl : Nat) (a : Int) : Nat → Nat := fun i => if i < tl then tp i else byB a (24 - 8 * (i - tl))
theorem and255 (a : Nat) : a &&& 255 = a % 256 := Nat.and_two_pow_sub_one_eq_mod a 8
theorem byB_lt (a : Int) (k : Nat) : byB a k < 256 := Nat.mod_lt _ (by decide)
theorem zi_u (a : Int) : zi a = zi (((a % 4294967296).toNat : Nat) : Int) := by
  rw [zi_mod a]
  congr 1
  omega
theorem tpA_lt {tp : Nat → Nat} {tl : Nat} {a : Int} (h : ∀ i, i < tl → tp i < 256) (i : Nat) : tpA tp tl a i < 256 := by
  unfold tpA
  split
  · rename_i e; exact h i e
  · exact byB_lt _ _
theorem lp_putBytes {l : Launch} {x : zX} {g : zG} {n : Nat} {Q : Option Value → zD → Prop} {d0 : zD} {tl : Nat} {tp : Nat → Nat} {a : Int} (hg : zAmOk g) (h400 : tl + 4 ≤ 400) (htp : ∀ i, i < tl → tp i < 256) (hQ : ∀ d, zF [0, 1] d0 d → (∀ i, i ≠ 1 → d 0 i = d0 0 i) → TPE d (tl + 4) (tpA tp tl a) → Q none d) : ∀ (r j : Nat) (d : zD), zF [0, 1] d0 d → (∀ i, i ≠ 1 → d 0 i = d0 0 i) → d 0 1 = ((tl + j : Nat) : Int) → (∀ i, i < tl + j → d 1 i = tpA tp tl a i) → j ≤ 4 → 4 - j < r → zV l x g mX7_putBytes n Q 3 [(0, zr g 0), (1, zi a), (2, zi (24 - 8 * (j : Int)))] [] d := by
  have hu : (a % 4294967296).toNat < 4294967296 := by omega
  intro r
  induction r with
  | zero => intro j d hf h0 h1 hd hj hr; omega
  | succ r ih =>
    intro j d hf h0 h1 hd hj hr
    refine z_iload_n 2 dX7_putBytes_3 rfl rfl ?_
    refine z_if_lt 49 (by omega) dX7_putBytes_4 (by decide) (fun h_4 => ?_) (fun h_4 => ?_)
    · exact z_vret rfl dX7_putBytes_49 (hQ d hf h0 ⟨by rw [h1, show j = 4 by omega], by omega, fun i hi => ⟨hd i (by omega), tpA_lt htp i⟩⟩)
    · refine z_aload_n 0 dX7_putBytes_7 rfl rfl ?_
      refine z_geti fl_RX7_76 (by decide) rfl rfl dX7_putBytes_8 ?_
      refine z_sipush dX7_putBytes_11 (by decide) ?_
      rw [h1]
      refine z_icmp_ge 49 (by omega) (by omega) dX7_putBytes_14 (by decide) (fun h_14 => absurd h_14 (by omega)) (fun h_14 => ?_)
      refine z_aload_n 0 dX7_putBytes_17 rfl rfl ?_
      refine z_getr fl_RX7_9 (by decide) rfl rfl dX7_putBytes_18 ?_
      refine z_aload_n 0 dX7_putBytes_21 rfl rfl ?_
      refine z_geti fl_RX7_76 (by decide) rfl rfl dX7_putBytes_22 ?_
      refine z_iload_n 1 dX7_putBytes_25 rfl rfl ?_
      refine z_iload_n 2 dX7_putBytes_26 rfl rfl ?_
      refine z_top ((24 - 8 * j : Nat) : Int) (by omega) ?_
      refine z_topv2 _ (zi_u a) ?_
      refine z_iushr _ (zushr (s := (a % 4294967296).toNat) hu (m := 24 - 8 * j) (by omega)) dX7_putBytes_27 ?_
      refine z_sipush dX7_putBytes_28 (by decide) ?_
      refine z_iand _ (zand _ 255) dX7_putBytes_31 ?_
      rw [and255, h1]
      refine z_iast (tl + j) (by decide) rfl rfl (by omega) (by decide) dX7_putBytes_32 ?_
      refine z_aload_n 0 dX7_putBytes_33 rfl rfl ?_
      refine z_dup dX7_putBytes_34 rfl ?_
      refine z_geti fl_RX7_76 (by decide) rfl rfl dX7_putBytes_35 ?_
      rw [zu_ne (by decide), h1]
      refine z_iconst dX7_putBytes_38 ?_
      refine z_iadd dX7_putBytes_39 ?_
      refine z_puti fp_RX7_76 (by decide) rfl rfl dX7_putBytes_40 ?_
      refine z_iinc 2 (L' := [(0, _), (1, _), (2, _)]) dX7_putBytes_43 (by decide) rfl rfl rfl ?_
      refine z_goto 3 dX7_putBytes_46 (by decide) ?_
      refine z_LL _ ?_ (ih (j + 1) _ ((hf.up (by decide)).up (by decide)) (fun i hi => by rw [zu_row, if_neg hi, zu_ne (by decide)]; exact h0 i hi) (by rw [zu_at]; rfl) (fun i hi => ?_) (by omega) (by omega))
      · rw [show (24 : Int) - 8 * (j : Int) + -8 = 24 - 8 * ((j + 1 : Nat) : Int) by omega]
      · rw [zu_ne (by decide), zu_row]
        split
        · rename_i e
          subst e
          unfold tpA byB
          rw [if_neg (by omega), show tl + j - tl = j by omega]
        · exact hd i (by omega)
theorem t_putBytes (l : Launch) {g : zG} (hg : zAmOk g) {d : zD} {tl : Nat} {tp : Nat → Nat} (T : TPE d tl tp) (h400 : tl + 4 ≤ 400) {a : Int} : zC l g mX7_putBytes 1 [zr g 0, zi a] d (fun r d' => r = none ∧ (zF [0, 1] d d' ∧ (∀ i, i ≠ 1 → d' 0 i = d 0 i) ∧ TPE d' (tl + 4) (tpA tp tl a))) := by
  obtain ⟨t1, t2, t3⟩ := T
  refine zC_of (L := [(0, _), (1, _)]) mk_X7_putBytes (Nat.le_of_ble_eq_true rfl) hg rfl (fun x => ?_)
  refine z_bipush dX7_putBytes_0 (by decide) ?_
  refine z_istore_n (L' := [(0, _), (1, _), (2, _)]) dX7_putBytes_2 rfl (by decide) rfl rfl ?_
  exact lp_putBytes hg h400 (fun i hi => (t3 i hi).2) (fun d' a1 a2 a3 => ⟨rfl, a1, a2, a3⟩) 5 0 d zF.rf (fun _ _ => rfl) t1 (fun i hi => by rw [(t3 i hi).1]; unfold tpA; rw [if_pos (by omega)]) (by omega) (by omega)
/-- twenty bytes more -/
def tp20 (tp : Nat → Nat) (tl : Nat) (a b c e f : Int) : Nat → Nat := tpA (tpA (tpA (tpA (tpA tp tl a) (tl + 4) b) (tl + 8) c) (tl + 12) e) (tl + 16) f
theorem IC.tape {d d' : zD} {h : Hl} {ord : Nat → Nat} {tl tl' : Nat} {tp tp' : Nat → Nat} {fl : Int} (I : IC d h ord tl tp fl) (e : zF [0, 1] d d') (e2 : d' 0 2 = d 0 2) (T : TPE d' tl' tp') : IC d' h ord tl' tp' fl := by
  obtain ⟨i1, i2, i3, i4, i5, i6, i7, ⟨b, i8, i9⟩, j, j4⟩ := I
  exact ⟨i1, e.HC (by decide) i2, i3.of (e 25 (by decide)), i4.of (e 27 (by decide)), i5.of (e 32 (by decide)) (e 33 (by decide)), fun i hi => by rw [e 22 (by decide)]; exact i6 i hi, i7, ⟨b, by rw [e 32 (by decide)]; exact i8, fun hb => (i9 hb).of (e 32 (by decide)) (e 35 (by decide)) (e 36 (by decide))⟩, T, by rw [e2]; exact j4⟩
def feeS (tl : Nat) : Int := if tl ≤ 380 then (tl + 20 : Nat) else -1
theorem t_feed (l : Launch) {g : zG} (hg : zAmOk g) {d : zD} {h : Hl} {ord : Nat → Nat} {tl : Nat} {tp : Nat → Nat} {fl : Int} (I : IC d h ord tl tp fl) {a b c e f : Int} : zC l g mX7_feed 2 [zr g 0, zi a, zi b, zi c, zi e, zi f] d (askQ d h ord (if tl ≤ 380 then tl + 20 else tl) (if tl ≤ 380 then tp20 tp tl a b c e f else tp) fl (feeS tl)) := by
  have T := I.2.2.2.2.2.2.2.2.1
  have t1 := T.1
  have t2 := T.2.1
  refine zC_of (L := [(0, _), (1, _), (2, _), (3, _), (4, _), (5, _)]) mk_X7_feed (Nat.le_of_ble_eq_true rfl) hg rfl (fun x => ?_)
  refine z_aload_n 0 dX7_feed_0 rfl rfl ?_
  refine z_geti fl_RX7_76 (by decide) rfl rfl dX7_feed_1 ?_
  refine z_sipush dX7_feed_4 (by decide) ?_
  rw [t1]
  refine z_icmp_le 12 (by omega) (by omega) dX7_feed_7 (by decide) (fun h_7 => ?_) (fun h_7 => ?_)
  · refine z_aload_n 0 dX7_feed_12 rfl rfl ?_
    refine z_iload_n 1 dX7_feed_13 rfl rfl ?_
    refine z_cv (t_putBytes l hg T (by omega) (a := a)) mk_X7_putBytes mi_X7_putBytes ml_RX7_80 (by omega) (by decide) rfl rfl rfl rfl (Nat.le_of_ble_eq_true rfl) dX7_feed_14 (zvoid fun d_14 q_14 => ?_)
    refine z_aload_n 0 dX7_feed_17 rfl rfl ?_
    refine z_iload_n 2 dX7_feed_18 rfl rfl ?_
    refine z_cv (t_putBytes l hg q_14.2.2 (by omega) (a := b)) mk_X7_putBytes mi_X7_putBytes ml_RX7_80 (by omega) (by decide) rfl rfl rfl rfl (Nat.le_of_ble_eq_true rfl) dX7_feed_19 (zvoid fun d_19 q_19 => ?_)
    refine z_aload_n 0 dX7_feed_22 rfl rfl ?_
    refine z_iload_n 3 dX7_feed_23 rfl rfl ?_
    refine z_cv (t_putBytes l hg q_19.2.2 (by omega) (a := c)) mk_X7_putBytes mi_X7_putBytes ml_RX7_80 (by omega) (by decide) rfl rfl rfl rfl (Nat.le_of_ble_eq_true rfl) dX7_feed_24 (zvoid fun d_24 q_24 => ?_)
    refine z_aload_n 0 dX7_feed_27 rfl rfl ?_
    refine z_iload 4 dX7_feed_28 rfl ?_
    refine z_cv (t_putBytes l hg q_24.2.2 (by omega) (a := e)) mk_X7_putBytes mi_X7_putBytes ml_RX7_80 (by omega) (by decide) rfl rfl rfl rfl (Nat.le_of_ble_eq_true rfl) dX7_feed_30 (zvoid fun d_30 q_30 => ?_)
    refine z_aload_n 0 dX7_feed_33 rfl rfl ?_
    refine z_iload 5 dX7_feed_34 rfl ?_
    refine z_cv (t_putBytes l hg q_30.2.2 (by omega) (a := f)) mk_X7_putBytes mi_X7_putBytes ml_RX7_80 (by omega) (by decide) rfl rfl rfl rfl (Nat.le_of_ble_eq_true rfl) dX7_feed_36 (zvoid fun d_36 q_36 => ?_)
    refine z_aload_n 0 dX7_feed_39 rfl rfl ?_
    refine z_geti fl_RX7_76 (by decide) rfl rfl dX7_feed_40 ?_
    have hF : zF [0, 1] d d_36 := (((q_14.1.tr q_19.1).tr q_24.1).tr q_30.1).tr q_36.1
    have h02 : d_36 0 2 = d 0 2 := by rw [q_36.2.1 2 (by decide), q_30.2.1 2 (by decide), q_24.2.1 2 (by decide), q_19.2.1 2 (by decide), q_14.2.1 2 (by decide)]
    rw [q_36.2.2.1]
    exact z_iret rfl dX7_feed_43 (by rw [if_pos (show tl ≤ 380 by omega), if_pos (show tl ≤ 380 by omega)]; exact ⟨by rw [feeS, if_pos (by omega)], CF.of hF (by decide), I.tape hF h02 q_36.2.2⟩)
  · refine z_iconst dX7_feed_10 ?_
    exact z_iret rfl dX7_feed_11 (by rw [if_neg (show ¬ tl ≤ 380 by omega), if_neg (show ¬ tl ≤ 380 by omega)]; exact askQ.rf I (by rw [feeS, if_neg (by omega)]))
def endB (tl : Nat) (a : Int) : Bool := decide (0 ≤ a ∧ a ≤ (tl : Int))
theorem t_end (l : Launch) {g : zG} (hg : zAmOk g) {d : zD} {h : Hl} {ord : Nat → Nat} {tl : Nat} {tp : Nat → Nat} {fl : Int} (I : IC d h ord tl tp fl) {a : Int} (ha : zin a) : zC l g mX7_end 1 [zr g 0, zi a] d (askQ d h ord (if endB tl a = true then a.toNat else tl) tp fl (zb (endB tl a))) := by
  obtain ⟨t1, t2, t3⟩ := I.2.2.2.2.2.2.2.2.1
  refine zC_of (L := [(0, _), (1, _)]) mk_X7_end (Nat.le_of_ble_eq_true rfl) hg rfl (fun x => ?_)
  refine z_iload_n 1 dX7_end_0 rfl rfl ?_
  refine z_if_lt 12 (by omega) dX7_end_1 (by decide) (fun h_1 => ?_) (fun h_1 => ?_)
  · refine z_iconst dX7_end_12 ?_
    have e : endB tl a = false := decide_eq_false (by omega)
    exact z_bret (b := false) rfl dX7_end_13 (by rw [e]; exact askQ.rf I rfl)
  · refine z_iload_n 1 dX7_end_4 rfl rfl ?_
    refine z_aload_n 0 dX7_end_5 rfl rfl ?_
    refine z_geti fl_RX7_76 (by decide) rfl rfl dX7_end_6 ?_
    rw [t1]
    refine z_icmp_le 14 (by omega) (by omega) dX7_end_9 (by decide) (fun h_9 => ?_) (fun h_9 => ?_)
    · refine z_aload_n 0 dX7_end_14 rfl rfl ?_
      refine z_iload_n 1 dX7_end_15 rfl rfl ?_
      refine z_puti fp_RX7_76 (by decide) rfl rfl dX7_end_16 ?_
      have e : endB tl a = true := decide_eq_true (by omega)
      refine z_iconst dX7_end_19 ?_
      exact z_bret (b := true) rfl dX7_end_20 (by rw [e, if_pos rfl]; exact ⟨rfl, CF.of (zF.rf.up (ps := [0, 1]) (by decide)) (by decide), I.tape (zF.rf.up (by decide)) (by rw [zu_row]; rfl) ⟨by rw [zu_at]; omega, by omega, fun i hi => by rw [zu_ne (by decide)]; exact t3 i (by omega)⟩⟩)
    · refine z_iconst dX7_end_12 ?_
      have e : endB tl a = false := decide_eq_false (by omega)
      exact z_bret (b := false) rfl dX7_end_13 (by rw [e]; exact askQ.rf I rfl)
/-- a weight is another -/
def setW (h : Hl) (i : Nat) (v : Int) : Hl := (h.1, h.2.1, h.2.2.1, h.2.2.2.1, h.2.2.2.2.1, (fun j => if j = i then v else hwe h j), h.2.2.2.2.2.2)
theorem plusN_setW (h : Hl) (i : Nat) (v : Int) (m s : Nat) : ∀ k, plusN (setW h i v) m s k = plusN h m s k
  | 0 => rfl
  | k + 1 => by rw [plusN, plusN, plusN_setW h i v m s k]; rfl
theorem formN_setW (h : Hl) (i : Nat) (v : Int) (s : Nat) : ∀ k, formN (setW h i v) s k = formN h s k
  | 0 => rfl
  | k + 1 => by
    have e : plusF (setW h i v) k s = plusF h k s := plusN_setW h i v k s (hN h)
    rw [formN, formN, formN_setW h i v s k, e]; rfl
theorem formF_setW (h : Hl) (i : Nat) (v : Int) : formF (setW h i v) = formF h := by funext s; exact formN_setW h i v s (hN h)
theorem openL_setW (h : Hl) (i : Nat) (v : Int) : openL (setW h i v) = openL h := by
  unfold openL opL openB
  rw [formF_setW]; rfl
theorem wsumN_setW {h : Hl} {i : Nat} {v : Int} {u f : Nat} (hu : i < 8 * u ∨ 8 * u + 8 ≤ i) : ∀ k, k ≤ 8 → wsumN (setW h i v) u f k = wsumN h u f k
  | 0, _ => rfl
  | k + 1, hk => by
    rw [wsumN, wsumN, wsumN_setW hu k (by omega)]
    have e : hwe (setW h i v) (8 * u + k) = hwe h (8 * u + k) := if_neg (by omega)
    rw [e]
theorem jsumN_setW (h : Hl) (i : Nat) (v : Int) (u f : Nat) : ∀ k, jsumN (setW h i v) u f k = jsumN h u f k
  | 0 => rfl
  | k + 1 => by rw [jsumN, jsumN, jsumN_setW h i v u f k]; rfl
theorem likeF_setW {h : Hl} {i : Nat} {v : Int} {u f : Nat} (hu : i < 8 * u ∨ 8 * u + 8 ≤ i) : likeF (setW h i v) u f = likeF h u f := by
  unfold likeF
  rw [wsumN_setW hu 8 (Nat.le_refl _), show hJ (setW h i v) = hJ h from rfl, jsumN_setW]
theorem Wf_setW {h : Hl} (w : Wf h) {i : Nat} {v : Int} (hv : -9 ≤ v ∧ v ≤ 9) : Wf (setW h i v) := by
  obtain ⟨w1, w2, w3, w4, w5, w6, w7, w8, w9⟩ := w
  refine ⟨w1, w2, w3, w4, w5, w6, w7, fun j hj => ?_, w9⟩
  show -9 ≤ (if j = i then v else hwe h j) ∧ (if j = i then v else hwe h j) ≤ 9
  split
  · exact hv
  · exact w8 j hj
def weiB (h : Hl) (v c x : Int) : Bool := vB h v && (decide (0 ≤ c ∧ c < 8) && decide (-9 ≤ x ∧ x ≤ 9))
theorem t_weigh (l : Launch) {g : zG} (hg : zAmOk g) {d : zD} {h : Hl} {ord : Nat → Nat} {tl : Nat} {tp : Nat → Nat} {fl : Int} (I : IC d h ord tl tp fl) {v c y : Int} (hv : zin v) (hc : zin c) (hy : zin y) : zC l g mX7_weigh 3 [zr g 0, zi v, zi c, zi y] d (askQ d (if weiB h v c y = true then setW h (8 * v.toNat + c.toNat) y else h) ord tl tp fl (zb (weiB h v c y))) := by
  obtain ⟨w, H, K, D, O, R, ho, ⟨b, i8, i9⟩, ⟨j1, j2, j3⟩, j4⟩ := id I
  have w4 := w.2.2.2.1
  have h4 : d 2 4 = hV h := H.1.2.2.2.2.1
  refine zC_of (L := [(0, _), (1, _), (2, _), (3, _)]) mk_X7_weigh (Nat.le_of_ble_eq_true rfl) hg rfl (fun x => ?_)
  refine z_aload_n 0 dX7_weigh_0 rfl rfl ?_
  refine z_getr fl_RX7_16 (by decide) rfl rfl dX7_weigh_1 ?_
  refine z_iload_n 1 dX7_weigh_4 rfl rfl ?_
  refine z_cv (t_hasVoter_2 l hg d hv (by omega)) mk_X2_hasVoter mi_X2_hasVoter ml_RX7_97 (by omega) (by decide) rfl rfl rfl rfl (Nat.le_of_ble_eq_true rfl) dX7_weigh_5 (zpure ?_)
  refine z_if_eq_b 30 dX7_weigh_8 (by decide) (fun h_8 => ?_) (fun h_8 => ?_)
  · rw [h4] at h_8
    refine z_iconst dX7_weigh_30 ?_
    have e : weiB h v c y = false := by unfold weiB vB; rw [h_8, Bool.false_and]
    exact z_bret (b := false) rfl dX7_weigh_31 (by rw [e]; exact askQ.rf I rfl)
  · rw [h4] at h_8
    refine z_iload_n 2 dX7_weigh_11 rfl rfl ?_
    refine z_cs (t_isClause l hg d hc) mk_X7_isClause ms_X7_isClause ml_RX7_101 (by omega) rfl rfl (Nat.le_of_ble_eq_true rfl) dX7_weigh_12 (zpure ?_)
    refine z_if_eq_b 30 dX7_weigh_15 (by decide) (fun h_15 => ?_) (fun h_15 => ?_)
    · refine z_iconst dX7_weigh_30 ?_
      have e : weiB h v c y = false := by unfold weiB; rw [h_15, Bool.false_and, Bool.and_false]
      exact z_bret (b := false) rfl dX7_weigh_31 (by rw [e]; exact askQ.rf I rfl)
    · refine z_iload_n 3 dX7_weigh_18 rfl rfl ?_
      refine z_bipush dX7_weigh_19 (by decide) ?_
      refine z_icmp_lt 30 (by omega) (by omega) dX7_weigh_21 (by decide) (fun h_21 => ?_) (fun h_21 => ?_)
      · refine z_iconst dX7_weigh_30 ?_
        have e : weiB h v c y = false := by unfold weiB; rw [decide_eq_false (show ¬ (-9 ≤ y ∧ y ≤ 9) by omega), Bool.and_false, Bool.and_false]
        exact z_bret (b := false) rfl dX7_weigh_31 (by rw [e]; exact askQ.rf I rfl)
      · refine z_iload_n 3 dX7_weigh_24 rfl rfl ?_
        refine z_bipush dX7_weigh_25 (by decide) ?_
        refine z_icmp_le 32 (by omega) (by omega) dX7_weigh_27 (by decide) (fun h_27 => ?_) (fun h_27 => ?_)
        · have e : weiB h v c y = true := by unfold weiB vB; rw [h_8, h_15, decide_eq_true (show -9 ≤ y ∧ y ≤ 9 by omega)]; rfl
          have h5 : 0 ≤ v ∧ v < (hV h : Int) := of_decide_eq_true h_8
          have h6 : 0 ≤ c ∧ c < 8 := of_decide_eq_true h_15
          obtain ⟨u, rfl⟩ := toN h5.1
          obtain ⟨k, rfl⟩ := toN h6.1
          rw [e, if_pos rfl, Int.toNat_natCast, Int.toNat_natCast]
          have w' : Wf (setW h (8 * u + k) y) := Wf_setW w (by omega)
          have H' : HC 2 (zu d 7 (8 * u + k) y) (setW h (8 * u + k) y) := by
            obtain ⟨q1, q2, q3, q4⟩ := H
            refine ⟨by rw [zu_ne (by decide)]; exact q1, fun i hi => by rw [zu_ne (by decide), zu_ne (by decide), zu_ne (by decide), zu_ne (by decide)]; exact q2 i hi, fun i hi => ?_, fun i hi => by rw [zu_ne (by decide), zu_ne (by decide), zu_ne (by decide)]; exact q4 i hi⟩
            show zu d 7 (8 * u + k) y 7 i = (if i = 8 * u + k then y else hwe h i)
            rw [zu_row]
            split
            · rfl
            · exact q3 i hi
          refine z_aload_n 0 dX7_weigh_32 rfl rfl ?_
          refine z_getr fl_RX7_16 (by decide) rfl rfl dX7_weigh_33 ?_
          refine z_getr fl_RX7_104 (by decide) rfl rfl dX7_weigh_36 ?_
          refine z_iload_n 1 dX7_weigh_39 rfl rfl ?_
          refine z_bipush dX7_weigh_40 (by decide) ?_
          refine z_imul dX7_weigh_42 ?_
          refine z_iload_n 2 dX7_weigh_43 rfl rfl ?_
          refine z_iadd dX7_weigh_44 ?_
          refine z_iload_n 3 dX7_weigh_45 rfl rfl ?_
          refine z_iast (8 * u + k) (by decide) rfl (by omega) (by omega) (by decide) dX7_weigh_46 ?_
          refine z_aload_n 0 dX7_weigh_47 rfl rfl ?_
          refine z_getr fl_RX7_44 (by decide) rfl rfl dX7_weigh_48 ?_
          refine z_iload_n 1 dX7_weigh_51 rfl rfl ?_
          refine z_cv (t_takeVoter l hg w' H' (v := u) (show u < hV (setW h (8 * u + k) y) by show u < hV h; omega)) mk_X5_takeVoter mi_X5_takeVoter ml_RX7_107 (by omega) (by decide) rfl rfl rfl rfl (Nat.le_of_ble_eq_true rfl) dX7_weigh_52 (zvoid fun d_52 q_52 => ?_)
          obtain ⟨f1, f2⟩ := q_52
          refine z_aload_n 0 dX7_weigh_55 rfl rfl ?_
          refine z_getr fl_RX7_69 (by decide) rfl rfl dX7_weigh_56 ?_
          refine z_cv (t_forgetBeaten l hg d_52) mk_X1_forgetBeaten mi_X1_forgetBeaten ml_RX7_110 (by omega) (by decide) rfl rfl rfl rfl (Nat.le_of_ble_eq_true rfl) dX7_weigh_59 (zvoid fun d_59 q_59 => ?_)
          subst q_59
          have hF : ∀ p, p ≠ 7 → p ≠ 25 → p ≠ 32 → zu d_52 32 7 0 p = d p := fun p h1 h2 h3 => by rw [zu_ne h3, f1.1 p (by simp; exact h2), zu_ne h1]
          refine z_iconst dX7_weigh_62 ?_
          refine z_bret (b := true) rfl dX7_weigh_63 (⟨rfl, fun p hp => hF p (by omega) (by omega) (by omega), w', HC.of H' (fun p h1 h2 => by rw [zu_ne (by omega), f1.1 p (by simp; omega)]), fun v' f hv' hf => ?_, fun s hs => by rw [hF 27 (by decide) (by decide) (by decide), formF_setW]; exact D s hs, ⟨by rw [openL_setW, zu_row, if_neg (by decide), f1.1 32 (by decide), zu_ne (by decide)]; exact O.1, fun i f hi => by rw [openL_setW] at hi; rw [hF 33 (by decide) (by decide) (by decide)]; exact O.2 i f hi⟩, fun i hi => by rw [hF 22 (by decide) (by decide) (by decide)]; exact R i hi, ho, ⟨false, zu_at _ _ _ _, fun hb => by cases hb⟩, ⟨by rw [hF 0 (by decide) (by decide) (by decide)]; exact j1, j2, fun i hi => by rw [hF 1 (by decide) (by decide) (by decide)]; exact j3 i hi⟩, by rw [hF 0 (by decide) (by decide) (by decide)]; exact j4⟩)
          rw [zu_ne (by decide)]
          by_cases ev : v' = u
          · subst ev; exact f2 f hf
          · rw [f1.2 _ (by omega), zu_ne (by decide), likeF_setW (by omega)]
            exact K v' f hv' hf
        · refine z_iconst dX7_weigh_30 ?_
          have e : weiB h v c y = false := by unfold weiB; rw [decide_eq_false (show ¬ (-9 ≤ y ∧ y ≤ 9) by omega), Bool.and_false, Bool.and_false]
          exact z_bret (b := false) rfl dX7_weigh_31 (by rw [e]; exact askQ.rf I rfl)
theorem t_takeTold (l : Launch) {g : zG} (hg : zAmOk g) {d : zD} {h : Hl} (w : Wf h) (H : HC 2 d h) {tl : Nat} {tp : Nat → Nat} {fl : Int} (T : TPE d tl tp) (F : d 0 2 = fl ∧ 0 ≤ fl ∧ fl < 10000) : zC l g mX7_takeTold 5 [zr g 0] d (fun r d' => r = none ∧ (CF d d' ∧ IC d' h (leastO h) tl tp fl)) := by
  obtain ⟨j1, j2, j3⟩ := T
  refine zC_of (L := [(0, _)]) mk_X7_takeTold (Nat.le_of_ble_eq_true rfl) hg rfl (fun x => ?_)
  refine z_aload_n 0 dX7_takeTold_0 rfl rfl ?_
  refine z_getr fl_RX7_37 (by decide) rfl rfl dX7_takeTold_1 ?_
  refine z_cv (t_takeLeast l hg w H) mk_X0_takeLeast mi_X0_takeLeast ml_RX7_241 (by omega) (by decide) rfl rfl rfl rfl (Nat.le_of_ble_eq_true rfl) dX7_takeTold_4 (zvoid fun d_4 q_4 => ?_)
  obtain ⟨a1, a2⟩ := q_4
  have H1 : HC 2 d_4 h := a1.HC (by decide) H
  refine z_aload_n 0 dX7_takeTold_7 rfl rfl ?_
  refine z_getr fl_RX7_44 (by decide) rfl rfl dX7_takeTold_8 ?_
  refine z_cv (t_takeAll l hg w H1) mk_X5_takeAll mi_X5_takeAll ml_RX7_244 (by omega) (by decide) rfl rfl rfl rfl (Nat.le_of_ble_eq_true rfl) dX7_takeTold_11 (zvoid fun d_11 q_11 => ?_)
  obtain ⟨b1, b2⟩ := q_11
  have H2 : HC 2 d_11 h := b1.HC (by decide) H1
  refine z_aload_n 0 dX7_takeTold_14 rfl rfl ?_
  refine z_getr fl_RX7_53 (by decide) rfl rfl dX7_takeTold_15 ?_
  refine z_cv (t_takeForms l hg w H2) mk_X6_takeForms mi_X6_takeForms ml_RX7_247 (by omega) (by decide) rfl rfl rfl rfl (Nat.le_of_ble_eq_true rfl) dX7_takeTold_18 (zvoid fun d_18 q_18 => ?_)
  obtain ⟨c1, c2⟩ := q_18
  have H3 : HC 2 d_18 h := c1.HC (by decide) H2
  refine z_aload_n 0 dX7_takeTold_21 rfl rfl ?_
  refine z_getr fl_RX7_69 (by decide) rfl rfl dX7_takeTold_22 ?_
  refine z_cv (t_takeOpen l hg w H3 c2) mk_X1_takeOpen mi_X1_takeOpen ml_RX7_250 (by omega) (by decide) rfl rfl rfl rfl (Nat.le_of_ble_eq_true rfl) dX7_takeTold_25 (zvoid fun d_25 q_25 => ?_)
  obtain ⟨e1, e2, e3⟩ := q_25
  have hF : ∀ p, p ≠ 22 → p ≠ 25 → p ≠ 27 → p ≠ 32 → p ≠ 33 → p ≠ 34 → d_25 p = d p := fun p h1 h2 h3 h4 h5 h6 => by rw [e1 p (by simp; omega), c1 p (by simp; omega), b1 p (by simp; omega), a1 p (by simp; omega)]
  exact z_vret rfl dX7_takeTold_28 (⟨rfl, fun p hp => hF p (by omega) (by omega) (by omega) (by omega) (by omega) (by omega), w, e1.HC (by decide) H3, (b2.of (c1 25 (by decide))).of (e1 25 (by decide)), MD.of c2 (e1 27 (by decide)), e2, fun i hi => by rw [e1 22 (by decide), c1 22 (by decide), b1 22 (by decide)]; exact a2 i hi, least_Ord w, ⟨false, e3, fun hb => by cases hb⟩, ⟨by rw [hF 0 (by decide) (by decide) (by decide) (by decide) (by decide) (by decide)]; exact j1, j2, fun i hi => by rw [hF 1 (by decide) (by decide) (by decide) (by decide) (by decide) (by decide)]; exact j3 i hi⟩, by rw [hF 0 (by decide) (by decide) (by decide) (by decide) (by decide) (by decide)]; exact F⟩)
