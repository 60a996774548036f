/-! the reference: its state, small methods, feed and end -/
/-- only such fields of the reference are others -/
def MR (ps : List Nat) (d d' : zD) : Prop := zF [37] d d' ∧ ∀ i, i ∉ ps → d' 37 i = d 37 i
theorem MR.rf {ps : List Nat} {d : zD} : MR ps d d := ⟨zF.rf, fun _ _ => rfl⟩
theorem MR.tr {ps : List Nat} {a b c : zD} (h1 : MR ps a b) (h2 : MR ps b c) : MR ps a c := ⟨h1.1.tr h2.1, fun i hi => (h2.2 i hi).trans (h1.2 i hi)⟩
theorem MR.up {ps : List Nat} {a b : zD} (h : MR ps a b) {i : Nat} {v : Int} (hi : i ∈ ps) : MR ps a (zu b 37 i v) := ⟨h.1.up (by decide), fun j hj => by rw [zu_row, if_neg (fun z => hj (by rw [z]; exact hi))]; exact h.2 j hj⟩
theorem MR.mono {ps qs : List Nat} {a b : zD} (h : MR ps a b) (hq : ∀ p ∈ ps, p ∈ qs) : MR qs a b := ⟨h.1, fun i hi => h.2 i (fun z => hi (hq i z))⟩
/-- the reference's hall: told (38, 40.., 48, 50..) or drawn up (39, 44.., 49, 53..) -/
def HMg (a s w j : Nat) (d : zD) (h : Hl) : Prop := (d a 0 = hB h ∧ d a 1 = hN h ∧ d a 2 = hS h ∧ d a 3 = hV h ∧ d a 4 = hJ h ∧ d a 5 = hQ h) ∧
  (∀ i, i < hN h → d s i = hso h i ∧ d (s + 1) i = hpa h i ∧ d (s + 2) i = hpl h i ∧ d (s + 3) i = hmi h i) ∧ (∀ i, i < 8 * hV h → d w i = hwe h i) ∧
  (∀ i, i < hJ h → d j i = hjv h i ∧ d (j + 1) i = hjs h i ∧ d (j + 2) i = hjw h i)
abbrev HM (d : zD) (h : Hl) : Prop := HMg 38 40 48 50 d h
abbrev HNw (d : zD) (h : Hl) : Prop := HMg 39 44 49 53 d h
theorem HMg.of {a s w j : Nat} {d d' : zD} {h : Hl} (H : HMg a s w j d h) (e : ∀ p, (p = a ∨ p = w ∨ (s ≤ p ∧ p ≤ s + 3) ∨ (j ≤ p ∧ p ≤ j + 2)) → d' p = d p) : HMg a s w j d' h := by
  obtain ⟨h1, h2, h3, h4⟩ := H
  refine ⟨?_, fun i hi => ?_, fun i hi => ?_, fun i hi => ?_⟩
  · rw [e a (by omega)]; exact h1
  · rw [e _ (by omega), e _ (by omega), e _ (by omega), e _ (by omega)]; exact h2 i hi
  · rw [e _ (by omega)]; exact h3 i hi
  · rw [e _ (by omega), e _ (by omega), e _ (by omega)]; exact h4 i hi
def TM (d : zD) (tp : Nat → Nat) (tl : Nat) : Prop := d 37 21 = tl ∧ tl ≤ 400 ∧ ∀ i, i < tl → d 57 i = tp i ∧ tp i < 256
/-- the reference holds the hall h, the order, a tape, a fault -/
def IM (d : zD) (h : Hl) (ord : Nat → Nat) (tl : Nat) (tp : Nat → Nat) (fl : Int) : Prop := Wf h ∧ HM d h ∧ (∀ i, i < hN h → d 56 i = ord i) ∧ TM d tp tl ∧ d 37 22 = fl ∧ Ord (hN h) ord
/-- the class's cells and the law's are as they were -/
def MF (d d' : zD) : Prop := ∀ p, (p < 37 ∨ 65 < p) → d' p = d p
theorem MF.rf {d : zD} : MF d d := fun _ _ => rfl
theorem MF.tr {a b c : zD} (h1 : MF a b) (h2 : MF b c) : MF a c := fun p hp => (h2 p hp).trans (h1 p hp)
theorem MF.of {ps : List Nat} {a b : zD} (h : zF ps a b) (hp : ∀ p ∈ ps, 37 ≤ p ∧ p ≤ 65) : MF a b := fun p hq => h p (fun z => by have := hp p z; omega)
theorem MR.MF {ps : List Nat} {a b : zD} (h : MR ps a b) : MF a b := MF.of h.1 (by decide)
theorem HM.of {d d' : zD} {h : Hl} (H : HM d h) {ps : List Nat} (e : zF ps d d') (hp : ∀ p ∈ ps, p < 38 ∨ p = 39 ∨ (44 ≤ p ∧ p ≤ 47) ∨ p = 49 ∨ 52 < p) : HM d' h := HMg.of H (fun p h1 => e p (fun z => by have := hp p z; omega))
theorem TM.of {d d' : zD} {tp : Nat → Nat} {tl : Nat} (T : TM d tp tl) (e : d' 37 21 = d 37 21) (e2 : d' 57 = d 57) : TM d' tp tl := ⟨by rw [e]; exact T.1, T.2.1, fun i hi => by rw [e2]; exact T.2.2 i hi⟩
/-- what a call that only asks may touch -/
theorem IM.of {d d' : zD} {h : Hl} {ord : Nat → Nat} {tl : Nat} {tp : Nat → Nat} {fl : Int} (I : IM d h ord tl tp fl) {ps : List Nat} (e : zF ps d d') (hp : ∀ p ∈ ps, p < 38 ∨ p = 39 ∨ (44 ≤ p ∧ p ≤ 47) ∨ p = 49 ∨ (52 < p ∧ p < 56) ∨ 57 < p) (e21 : d' 37 21 = d 37 21) (e22 : d' 37 22 = d 37 22) : IM d' h ord tl tp fl :=
  ⟨I.1, HM.of I.2.1 e (fun p z => by have := hp p z; omega), fun i hi => by rw [e 56 (fun z => by have := hp _ z; omega)]; exact I.2.2.1 i hi, I.2.2.2.1.of e21 (e 57 (fun z => by have := hp _ z; omega)), by rw [e22]; exact I.2.2.2.2.1, I.2.2.2.2.2⟩
def anM (d : zD) (h : Hl) (ord : Nat → Nat) (tl : Nat) (tp : Nat → Nat) (fl : Int) (v : Int) : Option Value → zD → Prop := fun r d' => r = some (zi v) ∧ MF d d' ∧ IM d' h ord tl tp fl
theorem t8_in (l : Launch) {g : zG} (hg : zAmOk g) (d : zD) {a b c : Int} (ha : zin a) (hb : zin b) (hc : zin c) : zC l g mX8_in 1 [zi a, zi b, zi c] d (zpu (zi (zb (decide (b ≤ a ∧ a ≤ c)))) d) := by
  refine zC_of (L := [(0, _), (1, _), (2, _)]) mk_X8_in (Nat.le_of_ble_eq_true rfl) hg rfl (fun x => ?_)
  refine z_iload_n 0 dX8_in_0 rfl rfl ?_
  refine z_iload_n 1 dX8_in_1 rfl rfl ?_
  refine z_icmp_lt 14 (by omega) (by omega) dX8_in_2 (by decide) (fun h_2 => ?_) (fun h_2 => ?_)
  · refine z_iconst dX8_in_14 ?_
    exact z_bret (b := false) rfl dX8_in_15 (zret_b (decide_eq_false (by omega)).symm)
  · refine z_iload_n 0 dX8_in_5 rfl rfl ?_
    refine z_iload_n 2 dX8_in_6 rfl rfl ?_
    refine z_icmp_gt 14 (by omega) (by omega) dX8_in_7 (by decide) (fun h_7 => ?_) (fun h_7 => ?_)
    · refine z_iconst dX8_in_14 ?_
      exact z_bret (b := false) rfl dX8_in_15 (zret_b (decide_eq_false (by omega)).symm)
    · refine z_iconst dX8_in_10 ?_
      refine z_goto 15 dX8_in_11 (by decide) ?_
      exact z_bret (b := true) rfl dX8_in_15 (zret_b (decide_eq_true (by omega)).symm)
theorem t8_has (l : Launch) {g : zG} (hg : zAmOk g) (d : zD) {m s : Nat} (hm : m < 32) : zC l g mX8_has 1 [zi (s : Int), zi (m : Int)] d (zpu (zi (zb (s.testBit m))) d) := by
  refine zC_of (L := [(0, _), (1, _)]) mk_X8_has (Nat.le_of_ble_eq_true rfl) hg rfl (fun x => ?_)
  refine z_iload_n 0 dX8_has_0 rfl rfl ?_
  refine z_iload_n 1 dX8_has_1 rfl rfl ?_
  refine z_ishr ((Int32.ofInt (s : Int) >>> (Int32.ofInt (m : Int) &&& 31)).toInt) (Int32.ofInt_toInt _).symm dX8_has_2 ?_
  refine z_iconst dX8_has_3 ?_
  refine z_iand (zb (s.testBit m)) (by rw [Int32.ofInt_toInt]; exact zshrb hm) dX8_has_4 ?_
  refine z_iconst dX8_has_5 ?_
  refine z_icmp_ne 13 (zb_in _) (by omega) dX8_has_6 (by decide) (fun h_6 => ?_) (fun h_6 => ?_)
  · refine z_iconst dX8_has_13 ?_
    exact z_bret (b := false) rfl dX8_has_14 (zret_b (by cases hb : s.testBit m <;> simp_all [zb]))
  · refine z_iconst dX8_has_9 ?_
    refine z_goto 14 dX8_has_10 (by decide) ?_
    exact z_bret (b := true) rfl dX8_has_14 (zret_b (by cases hb : s.testBit m <;> simp_all [zb]))
theorem bt_255 : ∀ i, i < 32 → bt (Int32.ofInt 255) i = decide (i < 8) := by decide +kernel
theorem sby {a : Int} {k : Nat} (hk : k ≤ 24) : (Int32.ofInt a >>> (Int32.ofInt (k : Int) &&& 31)) &&& Int32.ofInt 255 = Int32.ofInt ((byB a k : Nat) : Int) := by
  have hz : Int32.ofInt a = nI (a % 4294967296).toNat := by
    have := zi_u a
    unfold zi at this
    rw [← zn]
    exact Value.int.inj this
  rw [hz, zn, zn]
  apply b_ext
  intro i hi
  rw [b_and, b_sshr k (by omega) _ hi, bt_255 i hi, bt_nI _ hi]
  unfold byB
  rw [show (256 : Nat) = 2 ^ 8 from rfl, Nat.testBit_mod_two_pow, Nat.testBit_div_two_pow]
  by_cases e : i < 8
  · rw [if_pos (by omega), bt_nI _ (by omega), Nat.add_comm]
    simp [e]
  · simp [e]
theorem lp8_four {l : Launch} {x : zX} {g : zG} {n : Nat} {Q : Option Value → zD → Prop} {d0 : zD} {tl : Nat} {tp : Nat → Nat} {a : Int} (hg : zAmOk g) (h400 : tl + 4 ≤ 400) (htp : ∀ i, i < tl → tp i < 256) (hQ : ∀ d, zF [37, 57] d0 d → (∀ i, i ≠ 21 → d 37 i = d0 37 i) → TM d (tpA tp tl a) (tl + 4) → Q none d) : ∀ (r j : Nat) (d : zD), zF [37, 57] d0 d → (∀ i, i ≠ 21 → d 37 i = d0 37 i) → d 37 21 = ((tl + j : Nat) : Int) → (∀ i, i < tl + j → d 57 i = tpA tp tl a i) → j ≤ 4 → 4 - j < r → zV l x g mX8_four n Q 3 [(0, zr g 37), (1, zi a), (2, zi (24 - 8 * (j : Int)))] [] d := by
  intro r
  induction r with
  | zero => intro j d hf h0 h1 hd hj hr; omega
  | succ r ih =>
    intro j d hf h0 h1 hd hj hr
    refine z_iload_n 2 dX8_four_3 rfl rfl ?_
    refine z_if_lt 39 (by omega) dX8_four_4 (by decide) (fun h_4 => ?_) (fun h_4 => ?_)
    · exact z_vret rfl dX8_four_39 (hQ d hf h0 ⟨by rw [h1, show j = 4 by omega], by omega, fun i hi => ⟨hd i (by omega), tpA_lt htp i⟩⟩)
    · refine z_aload_n 0 dX8_four_7 rfl rfl ?_
      refine z_getr fl_RX8_67 (by decide) rfl rfl dX8_four_8 ?_
      refine z_aload_n 0 dX8_four_11 rfl rfl ?_
      refine z_geti fl_RX8_99 (by decide) rfl rfl dX8_four_12 ?_
      refine z_iload_n 1 dX8_four_15 rfl rfl ?_
      refine z_iload_n 2 dX8_four_16 rfl rfl ?_
      refine z_top ((24 - 8 * j : Nat) : Int) (by omega) ?_
      refine z_ishr ((Int32.ofInt a >>> (Int32.ofInt ((24 - 8 * j : Nat) : Int) &&& 31)).toInt) (Int32.ofInt_toInt _).symm dX8_four_17 ?_
      refine z_sipush dX8_four_18 (by decide) ?_
      refine z_iand ((byB a (24 - 8 * j) : Nat) : Int) (by rw [Int32.ofInt_toInt]; exact sby (by omega)) dX8_four_21 ?_
      rw [h1]
      refine z_iast (tl + j) (by decide) rfl rfl (by omega) (by decide) dX8_four_22 ?_
      refine z_aload_n 0 dX8_four_23 rfl rfl ?_
      refine z_dup dX8_four_24 rfl ?_
      refine z_geti fl_RX8_99 (by decide) rfl rfl dX8_four_25 ?_
      rw [zu_ne (by decide), h1]
      refine z_iconst dX8_four_28 ?_
      refine z_iadd dX8_four_29 ?_
      refine z_puti fp_RX8_99 (by decide) rfl rfl dX8_four_30 ?_
      refine z_iinc 2 (L' := [(0, _), (1, _), (2, _)]) dX8_four_33 (by decide) rfl rfl rfl ?_
      refine z_goto 3 dX8_four_36 (by decide) ?_
      refine z_LL _ ?_ (ih (j + 1) _ ((hf.up (by decide)).up (by decide)) (fun i hi => by rw [zu_row, if_neg hi, zu_ne (by decide)]; exact h0 i hi) (by rw [zu_at]; rfl) (fun i hi => ?_) (by omega) (by omega))
      · rw [show (24 : Int) - 8 * (j : Int) + -8 = 24 - 8 * ((j + 1 : Nat) : Int) by omega]
      · rw [zu_ne (by decide), zu_row]
        split
        · rename_i e
          subst e
          unfold tpA
          rw [if_neg (by omega), show tl + j - tl = j by omega]
        · exact hd i (by omega)
theorem t8_four (l : Launch) {g : zG} (hg : zAmOk g) {d : zD} {tl : Nat} {tp : Nat → Nat} (T : TM d tp tl) (h400 : tl + 4 ≤ 400) {a : Int} : zC l g mX8_four 1 [zr g 37, zi a] d (fun r d' => r = none ∧ (zF [37, 57] d d' ∧ (∀ i, i ≠ 21 → d' 37 i = d 37 i) ∧ TM d' (tpA tp tl a) (tl + 4))) := by
  obtain ⟨t1, t2, t3⟩ := T
  refine zC_of (L := [(0, _), (1, _)]) mk_X8_four (Nat.le_of_ble_eq_true rfl) hg rfl (fun x => ?_)
  refine z_bipush dX8_four_0 (by decide) ?_
  refine z_istore_n (L' := [(0, _), (1, _), (2, _)]) dX8_four_2 rfl (by decide) rfl rfl ?_
  exact lp8_four hg h400 (fun i hi => (t3 i hi).2) (fun d' a1 a2 a3 => ⟨rfl, a1, a2, a3⟩) 5 0 d zF.rf (fun _ _ => rfl) t1 (fun i hi => by rw [(t3 i hi).1]; unfold tpA; rw [if_pos (by omega)]) (by omega) (by omega)
theorem IM.tape {d d' : zD} {h : Hl} {ord : Nat → Nat} {tl tl' : Nat} {tp tp' : Nat → Nat} {fl : Int} (I : IM d h ord tl tp fl) (e : zF [37, 57] d d') (e2 : d' 37 22 = d 37 22) (T : TM d' tp' tl') : IM d' h ord tl' tp' fl :=
  ⟨I.1, HM.of I.2.1 e (by decide), fun i hi => by rw [e 56 (by decide)]; exact I.2.2.1 i hi, T, by rw [e2]; exact I.2.2.2.2.1, I.2.2.2.2.2⟩
theorem t8_feed (l : Launch) {g : zG} (hg : zAmOk g) {d : zD} {h : Hl} {ord : Nat → Nat} {tl : Nat} {tp : Nat → Nat} {fl : Int} (I : IM d h ord tl tp fl) {a b c e f : Int} : zC l g mX8_feed 2 [zr g 37, zi a, zi b, zi c, zi e, zi f] d (anM d h ord (if tl ≤ 380 then tl + 20 else tl) (if tl ≤ 380 then tp20 tp tl a b c e f else tp) fl (feeS tl)) := by
  have T := I.2.2.2.1
  have t1 := T.1
  have t2 := T.2.1
  refine zC_of (L := [(0, _), (1, _), (2, _), (3, _), (4, _), (5, _)]) mk_X8_feed (Nat.le_of_ble_eq_true rfl) hg rfl (fun x => ?_)
  refine z_aload_n 0 dX8_feed_0 rfl rfl ?_
  refine z_iconst dX8_feed_1 ?_
  refine z_puti fp_RX8_95 (by decide) rfl rfl dX8_feed_2 ?_
  refine z_aload_n 0 dX8_feed_5 rfl rfl ?_
  refine z_geti fl_RX8_99 (by decide) rfl rfl dX8_feed_6 ?_
  refine z_bipush dX8_feed_9 (by decide) ?_
  rw [show zu d 37 0 0 37 21 = (tl : Int) by rw [zu_row, if_neg (by decide)]; exact t1]
  refine z_iadd dX8_feed_11 ?_
  refine z_sipush dX8_feed_12 (by decide) ?_
  have hF0 : zF [37, 57] d (zu d 37 0 0) := zF.rf.up (by decide)
  have T0 : TM (zu d 37 0 0) tp tl := T.of (by rw [zu_row, if_neg (by decide)]) (zu_ne (by decide))
  refine z_icmp_le 20 (by omega) (by omega) dX8_feed_15 (by decide) (fun h_15 => ?_) (fun h_15 => ?_)
  · refine z_aload_n 0 dX8_feed_20 rfl rfl ?_
    refine z_iload_n 1 dX8_feed_21 rfl rfl ?_
    refine z_cv (t8_four l hg T0 (by omega) (a := a)) mk_X8_four mi_X8_four ml_RX8_102 (by omega) (by decide) rfl rfl rfl rfl (Nat.le_of_ble_eq_true rfl) dX8_feed_22 (zvoid fun d_22 q_22 => ?_)
    refine z_aload_n 0 dX8_feed_25 rfl rfl ?_
    refine z_iload_n 2 dX8_feed_26 rfl rfl ?_
    refine z_cv (t8_four l hg q_22.2.2 (by omega) (a := b)) mk_X8_four mi_X8_four ml_RX8_102 (by omega) (by decide) rfl rfl rfl rfl (Nat.le_of_ble_eq_true rfl) dX8_feed_27 (zvoid fun d_27 q_27 => ?_)
    refine z_aload_n 0 dX8_feed_30 rfl rfl ?_
    refine z_iload_n 3 dX8_feed_31 rfl rfl ?_
    refine z_cv (t8_four l hg q_27.2.2 (by omega) (a := c)) mk_X8_four mi_X8_four ml_RX8_102 (by omega) (by decide) rfl rfl rfl rfl (Nat.le_of_ble_eq_true rfl) dX8_feed_32 (zvoid fun d_32 q_32 => ?_)
    refine z_aload_n 0 dX8_feed_35 rfl rfl ?_
    refine z_iload 4 dX8_feed_36 rfl ?_
    refine z_cv (t8_four l hg q_32.2.2 (by omega) (a := e)) mk_X8_four mi_X8_four ml_RX8_102 (by omega) (by decide) rfl rfl rfl rfl (Nat.le_of_ble_eq_true rfl) dX8_feed_38 (zvoid fun d_38 q_38 => ?_)
    refine z_aload_n 0 dX8_feed_41 rfl rfl ?_
    refine z_iload 5 dX8_feed_42 rfl ?_
    refine z_cv (t8_four l hg q_38.2.2 (by omega) (a := f)) mk_X8_four mi_X8_four ml_RX8_102 (by omega) (by decide) rfl rfl rfl rfl (Nat.le_of_ble_eq_true rfl) dX8_feed_44 (zvoid fun d_44 q_44 => ?_)
    refine z_aload_n 0 dX8_feed_47 rfl rfl ?_
    refine z_geti fl_RX8_99 (by decide) rfl rfl dX8_feed_48 ?_
    have hF : zF [37, 57] d d_44 := ((((hF0.tr q_22.1).tr q_27.1).tr q_32.1).tr q_38.1).tr q_44.1
    have h02 : d_44 37 22 = d 37 22 := by rw [q_44.2.1 22 (by decide), q_38.2.1 22 (by decide), q_32.2.1 22 (by decide), q_27.2.1 22 (by decide), q_22.2.1 22 (by decide), zu_row, if_neg (by decide)]
    rw [q_44.2.2.1]
    exact z_iret rfl dX8_feed_51 (by rw [if_pos (show tl ≤ 380 by omega), if_pos (show tl ≤ 380 by omega)]; exact ⟨by rw [feeS, if_pos (by omega)], MF.of hF (by decide), I.tape hF h02 q_44.2.2⟩)
  · refine z_iconst dX8_feed_18 ?_
    exact z_iret rfl dX8_feed_19 (by rw [if_neg (show ¬ tl ≤ 380 by omega), if_neg (show ¬ tl ≤ 380 by omega)]; exact ⟨by rw [feeS, if_neg (by omega)], MF.of hF0 (by decide), I.tape hF0 (by rw [zu_row, if_neg (by decide)]) T0⟩)
theorem t8_end (l : Launch) {g : zG} (hg : zAmOk g) {d : zD} {h : Hl} {ord : Nat → Nat} {tl : Nat} {tp : Nat → Nat} {fl : Int} (I : IM d h ord tl tp fl) {a : Int} (ha : zin a) : zC l g mX8_end 2 [zr g 37, zi a] d (anM d h ord (if endB tl a = true then a.toNat else tl) tp fl (zb (endB tl a))) := by
  obtain ⟨t1, t2, t3⟩ := I.2.2.2.1
  refine zC_of (L := [(0, _), (1, _)]) mk_X8_end (Nat.le_of_ble_eq_true rfl) hg rfl (fun x => ?_)
  refine z_aload_n 0 dX8_end_0 rfl rfl ?_
  refine z_iconst dX8_end_1 ?_
  refine z_puti fp_RX8_95 (by decide) rfl rfl dX8_end_2 ?_
  refine z_iload_n 1 dX8_end_5 rfl rfl ?_
  refine z_iconst dX8_end_6 ?_
  refine z_aload_n 0 dX8_end_7 rfl rfl ?_
  refine z_geti fl_RX8_99 (by decide) rfl rfl dX8_end_8 ?_
  rw [show zu d 37 0 0 37 21 = (tl : Int) by rw [zu_row, if_neg (by decide)]; exact t1]
  refine z_cs (t8_in l hg (zu d 37 0 0) (a := a) (b := 0) (c := (tl : Int)) ha (by decide) (by omega)) mk_X8_in ms_X8_in ml_RX8_106 (by omega) rfl rfl (Nat.le_of_ble_eq_true rfl) dX8_end_11 (zpure ?_)
  refine z_if_ne_b 19 dX8_end_14 (by decide) (fun h_14 => ?_) (fun h_14 => ?_)
  · refine z_aload_n 0 dX8_end_19 rfl rfl ?_
    refine z_iload_n 1 dX8_end_20 rfl rfl ?_
    refine z_puti fp_RX8_99 (by decide) rfl rfl dX8_end_21 ?_
    refine z_iconst dX8_end_24 ?_
    have hF0 : zF [37, 57] d (zu (zu d 37 0 0) 37 21 a) := (zF.rf.up (by decide)).up (by decide)
    have h14 := of_decide_eq_true h_14
    exact z_bret (b := true) rfl dX8_end_25 (by rw [if_pos (by rw [endB]; exact h_14)]; exact ⟨by rw [endB, h_14], MF.of hF0 (by decide), I.tape hF0 (by rw [zu_row, if_neg (by decide), zu_row, if_neg (by decide)]) ⟨by rw [zu_at]; omega, by omega, fun i hi => by rw [zu_ne (by decide), zu_ne (by decide)]; exact t3 i (by omega)⟩⟩)
  · refine z_iconst dX8_end_17 ?_
    have hF0 : zF [37, 57] d (zu d 37 0 0) := zF.rf.up (by decide)
    exact z_bret (b := false) rfl dX8_end_18 (by rw [if_neg (by rw [endB, h_14]; decide)]; exact ⟨by rw [endB, h_14], MF.of hF0 (by decide), I.tape hF0 (by rw [zu_row, if_neg (by decide)]) (I.2.2.2.1.of (by rw [zu_row, if_neg (by decide)]) (zu_ne (by decide)))⟩)
