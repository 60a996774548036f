/-! the reference: without, killers -/
theorem goneN_st {h : Hl} {m i : Nat} : ∀ K, i < K → (goneN h m K).testBit i = (goneN h m (i + 1)).testBit i
  | 0, hi => absurd hi (by omega)
  | K + 1, hi => by
    by_cases e : i = K
    · rw [e]
    · rw [goneN]
      split
      · rw [or_bit1, goneN_st K (by omega), decide_eq_false (by omega), Bool.or_false]
      · exact goneN_st K (by omega)
theorem goneN_hi {h : Hl} {m i : Nat} : ∀ K, K ≤ i → (goneN h m K).testBit i = decide (m = i)
  | 0, _ => by rw [goneN, Nat.testBit_two_pow]
  | K + 1, hi => by
    rw [goneN]
    split
    · rw [or_bit1, goneN_hi K (by omega), decide_eq_false (show ¬ K = i by omega), Bool.or_false]
    · exact goneN_hi K (by omega)
theorem gone_rec {h : Hl} (w : Wf h) {m i : Nat} (hi : i < hN h) : (goneF h m).testBit i = true ↔ i = m ∨ (m < i ∧ hpa h i ≠ -1 ∧ (goneF h m).testBit (hpa h i).toNat = true) := by
  have hp := w.pa hi
  have h1 : (goneF h m).testBit i = (goneN h m (i + 1)).testBit i := goneN_st (hN h) hi
  rw [h1, goneN]
  have h2 : hpa h i ≠ -1 → (goneN h m i).testBit (hpa h i).toNat = (goneF h m).testBit (hpa h i).toNat := fun z => by
    unfold goneF
    rw [goneN_st (hN h) (by omega), goneN_st i (by omega)]
  split
  · rename_i c
    rw [or_bit1, decide_eq_true rfl, Bool.or_true]
    refine ⟨fun _ => Or.inr ⟨c.1, c.2.1, ?_⟩, fun _ => rfl⟩
    rw [← h2 c.2.1]; exact c.2.2
  · rename_i c
    rw [goneN_hi i (Nat.le_refl _), decide_eq_true_eq]
    constructor
    · intro z; exact Or.inl z.symm
    · rintro (z | ⟨z1, z2, z3⟩)
      · exact z.symm
      · exact absurd ⟨z1, z2, by rw [h2 z2]; exact z3⟩ c
def gwP (h : Hl) (k m : Nat) : Prop := k = m ∨ (hso h k = 3 ∧ hpa h k = m) ∨ (hso h m = 1 ∧ (hso h k = 2 ∨ (hso h k = 3 ∧ hso h (hpa h k).toNat = 2)))
theorem gone_iff {h : Hl} (w : Wf h) {m k : Nat} (hm : m < hN h) (hk : k < hN h) : (goneF h m).testBit k = true ↔ gwP h k m := by
  obtain ⟨a1, a2, a3, a4, a5, a6, a7⟩ := w.2.2.2.2.2.2.1 k hk
  obtain ⟨b1, b2, b3, b4, b5, b6, b7⟩ := w.2.2.2.2.2.2.1 m hm
  have w6 := w.2.2.2.2.2.1
  have hself : (goneF h m).testBit m = true := (gone_rec w hm).mpr (Or.inl rfl)
  rw [gone_rec w hk]
  constructor
  · rintro (z | ⟨z1, z2, z3⟩)
    · exact Or.inl z
    · right
      have hp := w.pa hk
      have hpl : (hpa h k).toNat < hN h := by omega
      obtain ⟨c1, c2, c3, c4, c5, c6, c7⟩ := w.2.2.2.2.2.2.1 _ hpl
      rw [gone_rec w hpl] at z3
      rcases (show hso h k = 0 ∨ hso h k = 1 ∨ hso h k = 2 ∨ hso h k = 3 by omega) with e | e | e | e
      · have := a5 (Or.inl e); omega
      · have := a5 (Or.inr e); omega
      · have h6 := a6 e
        rcases z3 with z3 | ⟨y1, y2, y3⟩
        · exact Or.inr ⟨b4.mpr (by omega), Or.inl e⟩
        · have := c5 (Or.inr (c4.mpr (by omega))); omega
      · have h7 := a7 e
        rcases z3 with z3 | ⟨y1, y2, y3⟩
        · exact Or.inl ⟨e, by omega⟩
        · rcases h7.2.2 with e2 | e2
          · have := c5 (Or.inl e2); omega
          · have h6 := c6 e2
            have hql : (hpa h (hpa h k).toNat).toNat < hN h := by omega
            obtain ⟨g1, g2, g3, g4, g5, g6, g7⟩ := w.2.2.2.2.2.2.1 _ hql
            have hs1 : hso h (hpa h (hpa h k).toNat).toNat = 1 := g4.mpr (by omega)
            rw [gone_rec w hql] at y3
            rcases y3 with y3 | ⟨x1, x2, x3⟩
            · rw [y3] at hs1
              exact Or.inr ⟨hs1, Or.inr ⟨e, e2⟩⟩
            · have := g5 (Or.inr hs1); omega
  · rintro (z | ⟨z1, z2⟩ | ⟨z1, z2⟩)
    · exact Or.inl z
    · have h7 := a7 z1
      exact Or.inr ⟨by omega, by omega, by rw [show (hpa h k).toNat = m by omega]; exact hself⟩
    · have hS := b4.mp z1
      rcases z2 with z2 | ⟨z2, z3⟩
      · have h6 := a6 z2
        exact Or.inr ⟨by omega, by omega, by rw [show (hpa h k).toNat = m by omega]; exact hself⟩
      · have h7 := a7 z2
        have hpl : (hpa h k).toNat < hN h := by omega
        obtain ⟨c1, c2, c3, c4, c5, c6, c7⟩ := w.2.2.2.2.2.2.1 _ hpl
        have h6 := c6 z3
        refine Or.inr ⟨by omega, by omega, (gone_rec w hpl).mpr (Or.inr ⟨by omega, by omega, ?_⟩)⟩
        rw [show (hpa h (hpa h k).toNat).toNat = m by omega]; exact hself
theorem gone_b {h : Hl} (w : Wf h) {m k : Nat} (hm : m < hN h) (hk : k < hN h) {b : Bool} (hb : b = true ↔ gwP h k m) : b = (goneF h m).testBit k := by
  have := gone_iff w hm hk
  cases hg : (goneF h m).testBit k with
  | true => rw [hg] at this; exact hb.mpr (this.mp rfl)
  | false =>
    rw [hg] at this
    cases b with
    | false => rfl
    | true => exact absurd (this.mpr (hb.mp rfl)) (by decide)
theorem t8_goesWith (l : Launch) {g : zG} (hg : zAmOk g) {d : zD} {h : Hl} (w : Wf h) (H : HM d h) {m k : Nat} (hm : m < hN h) (hk : k < hN h) : zC l g mX8_goesWith 1 [zr g 37, zi (k : Int), zi (m : Int)] d (zpu (zi (zb ((goneF h m).testBit k))) d) := by
  have w3 := w.2.2.1
  obtain ⟨e1, e2, e3, e4⟩ := H.m hk
  have em := (H.m hm).1
  obtain ⟨a1, a2, a3, a4, a5, a6, a7⟩ := w.2.2.2.2.2.2.1 k hk
  have b1 := (w.2.2.2.2.2.2.1 m hm).1
  have hp := w.pa hk
  refine zC_of (L := [(0, _), (1, _), (2, _)]) mk_X8_goesWith (Nat.le_of_ble_eq_true rfl) hg rfl (fun x => ?_)
  refine z_iload_n 1 dX8_goesWith_0 rfl rfl ?_
  refine z_iload_n 2 dX8_goesWith_1 rfl rfl ?_
  refine z_icmp_eq 70 (by omega) (by omega) dX8_goesWith_2 (by decide) (fun h_2 => ?_) (fun h_2 => ?_)
  · refine z_iconst dX8_goesWith_70 ?_
    refine z_goto 75 dX8_goesWith_71 (by decide) ?_
    exact z_bret (b := true) rfl dX8_goesWith_75 (zret_b (gone_b w hm hk ⟨fun _ => (by unfold gwP; omega), fun _ => rfl⟩))
  · refine z_aload_n 0 dX8_goesWith_5 rfl rfl ?_
    refine z_getr fl_RX8_16 (by decide) rfl rfl dX8_goesWith_6 ?_
    refine z_iload_n 1 dX8_goesWith_9 rfl rfl ?_
    refine z_iald _ (by decide) rfl rfl (by omega) (by decide) dX8_goesWith_10 ?_
    refine z_iconst dX8_goesWith_11 ?_
    rw [e1]
    refine z_icmp_ne 25 (by omega) (by omega) dX8_goesWith_12 (by decide) (fun h_12 => ?_) (fun h_12 => ?_)
    · refine z_aload_n 0 dX8_goesWith_25 rfl rfl ?_
      refine z_getr fl_RX8_16 (by decide) rfl rfl dX8_goesWith_26 ?_
      refine z_iload_n 2 dX8_goesWith_29 rfl rfl ?_
      refine z_iald _ (by decide) rfl rfl (by omega) (by decide) dX8_goesWith_30 ?_
      refine z_iconst dX8_goesWith_31 ?_
      rw [em]
      refine z_icmp_ne 74 (by omega) (by omega) dX8_goesWith_32 (by decide) (fun h_32 => ?_) (fun h_32 => ?_)
      · refine z_iconst dX8_goesWith_74 ?_
        exact z_bret (b := false) rfl dX8_goesWith_75 (zret_b (gone_b w hm hk ⟨fun z => (by cases z), fun z => (by unfold gwP at z; omega)⟩))
      · refine z_aload_n 0 dX8_goesWith_35 rfl rfl ?_
        refine z_getr fl_RX8_16 (by decide) rfl rfl dX8_goesWith_36 ?_
        refine z_iload_n 1 dX8_goesWith_39 rfl rfl ?_
        refine z_iald _ (by decide) rfl rfl (by omega) (by decide) dX8_goesWith_40 ?_
        refine z_iconst dX8_goesWith_41 ?_
        rw [e1]
        refine z_icmp_eq 70 (by omega) (by omega) dX8_goesWith_42 (by decide) (fun h_42 => ?_) (fun h_42 => ?_)
        · refine z_iconst dX8_goesWith_70 ?_
          refine z_goto 75 dX8_goesWith_71 (by decide) ?_
          exact z_bret (b := true) rfl dX8_goesWith_75 (zret_b (gone_b w hm hk ⟨fun _ => (by unfold gwP; omega), fun _ => rfl⟩))
        · refine z_aload_n 0 dX8_goesWith_45 rfl rfl ?_
          refine z_getr fl_RX8_16 (by decide) rfl rfl dX8_goesWith_46 ?_
          refine z_iload_n 1 dX8_goesWith_49 rfl rfl ?_
          refine z_iald _ (by decide) rfl rfl (by omega) (by decide) dX8_goesWith_50 ?_
          refine z_iconst dX8_goesWith_51 ?_
          rw [e1]
          refine z_icmp_ne 74 (by omega) (by omega) dX8_goesWith_52 (by decide) (fun h_52 => ?_) (fun h_52 => ?_)
          · refine z_iconst dX8_goesWith_74 ?_
            exact z_bret (b := false) rfl dX8_goesWith_75 (zret_b (gone_b w hm hk ⟨fun z => (by cases z), fun z => (by unfold gwP at z; omega)⟩))
          · refine z_aload_n 0 dX8_goesWith_55 rfl rfl ?_
            refine z_getr fl_RX8_16 (by decide) rfl rfl dX8_goesWith_56 ?_
            refine z_aload_n 0 dX8_goesWith_59 rfl rfl ?_
            refine z_getr fl_RX8_19 (by decide) rfl rfl dX8_goesWith_60 ?_
            refine z_iload_n 1 dX8_goesWith_63 rfl rfl ?_
            refine z_iald _ (by decide) rfl rfl (by omega) (by decide) dX8_goesWith_64 ?_
            rw [e2]
            have hpl : (hpa h k).toNat < hN h := by have := a7 (by omega); omega
            have ep := (H.m hpl).1
            have p1 := (w.2.2.2.2.2.2.1 _ hpl).1
            refine z_iald (hpa h k).toNat (by decide) rfl (by omega) (by omega) (by decide) dX8_goesWith_65 ?_
            refine z_iconst dX8_goesWith_66 ?_
            rw [ep]
            refine z_icmp_ne 74 (by omega) (by omega) dX8_goesWith_67 (by decide) (fun h_67 => ?_) (fun h_67 => ?_)
            · refine z_iconst dX8_goesWith_74 ?_
              exact z_bret (b := false) rfl dX8_goesWith_75 (zret_b (gone_b w hm hk ⟨fun z => (by cases z), fun z => (by unfold gwP at z; omega)⟩))
            · refine z_iconst dX8_goesWith_70 ?_
              refine z_goto 75 dX8_goesWith_71 (by decide) ?_
              exact z_bret (b := true) rfl dX8_goesWith_75 (zret_b (gone_b w hm hk ⟨fun _ => (by unfold gwP; omega), fun _ => rfl⟩))
    · refine z_aload_n 0 dX8_goesWith_15 rfl rfl ?_
      refine z_getr fl_RX8_19 (by decide) rfl rfl dX8_goesWith_16 ?_
      refine z_iload_n 1 dX8_goesWith_19 rfl rfl ?_
      refine z_iald _ (by decide) rfl rfl (by omega) (by decide) dX8_goesWith_20 ?_
      refine z_iload_n 2 dX8_goesWith_21 rfl rfl ?_
      rw [e2]
      refine z_icmp_eq 70 (by omega) (by omega) dX8_goesWith_22 (by decide) (fun h_22 => ?_) (fun h_22 => ?_)
      · refine z_iconst dX8_goesWith_70 ?_
        refine z_goto 75 dX8_goesWith_71 (by decide) ?_
        exact z_bret (b := true) rfl dX8_goesWith_75 (zret_b (gone_b w hm hk ⟨fun _ => (by unfold gwP; omega), fun _ => rfl⟩))
      · refine z_aload_n 0 dX8_goesWith_25 rfl rfl ?_
        refine z_getr fl_RX8_16 (by decide) rfl rfl dX8_goesWith_26 ?_
        refine z_iload_n 2 dX8_goesWith_29 rfl rfl ?_
        refine z_iald _ (by decide) rfl rfl (by omega) (by decide) dX8_goesWith_30 ?_
        refine z_iconst dX8_goesWith_31 ?_
        rw [em]
        refine z_icmp_ne 74 (by omega) (by omega) dX8_goesWith_32 (by decide) (fun h_32 => ?_) (fun h_32 => ?_)
        · refine z_iconst dX8_goesWith_74 ?_
          exact z_bret (b := false) rfl dX8_goesWith_75 (zret_b (gone_b w hm hk ⟨fun z => (by cases z), fun z => (by unfold gwP at z; omega)⟩))
        · refine z_aload_n 0 dX8_goesWith_35 rfl rfl ?_
          refine z_getr fl_RX8_16 (by decide) rfl rfl dX8_goesWith_36 ?_
          refine z_iload_n 1 dX8_goesWith_39 rfl rfl ?_
          refine z_iald _ (by decide) rfl rfl (by omega) (by decide) dX8_goesWith_40 ?_
          refine z_iconst dX8_goesWith_41 ?_
          rw [e1]
          refine z_icmp_eq 70 (by omega) (by omega) dX8_goesWith_42 (by decide) (fun h_42 => ?_) (fun h_42 => ?_)
          · refine z_iconst dX8_goesWith_70 ?_
            refine z_goto 75 dX8_goesWith_71 (by decide) ?_
            exact z_bret (b := true) rfl dX8_goesWith_75 (zret_b (gone_b w hm hk ⟨fun _ => (by unfold gwP; omega), fun _ => rfl⟩))
          · refine z_aload_n 0 dX8_goesWith_45 rfl rfl ?_
            refine z_getr fl_RX8_16 (by decide) rfl rfl dX8_goesWith_46 ?_
            refine z_iload_n 1 dX8_goesWith_49 rfl rfl ?_
            refine z_iald _ (by decide) rfl rfl (by omega) (by decide) dX8_goesWith_50 ?_
            refine z_iconst dX8_goesWith_51 ?_
            rw [e1]
            refine z_icmp_ne 74 (by omega) (by omega) dX8_goesWith_52 (by decide) (fun h_52 => ?_) (fun h_52 => ?_)
            · refine z_iconst dX8_goesWith_74 ?_
              exact z_bret (b := false) rfl dX8_goesWith_75 (zret_b (gone_b w hm hk ⟨fun z => (by cases z), fun z => (by unfold gwP at z; omega)⟩))
            · refine z_aload_n 0 dX8_goesWith_55 rfl rfl ?_
              refine z_getr fl_RX8_16 (by decide) rfl rfl dX8_goesWith_56 ?_
              refine z_aload_n 0 dX8_goesWith_59 rfl rfl ?_
              refine z_getr fl_RX8_19 (by decide) rfl rfl dX8_goesWith_60 ?_
              refine z_iload_n 1 dX8_goesWith_63 rfl rfl ?_
              refine z_iald _ (by decide) rfl rfl (by omega) (by decide) dX8_goesWith_64 ?_
              rw [e2]
              have hpl : (hpa h k).toNat < hN h := by have := a7 (by omega); omega
              have ep := (H.m hpl).1
              have p1 := (w.2.2.2.2.2.2.1 _ hpl).1
              refine z_iald (hpa h k).toNat (by decide) rfl (by omega) (by omega) (by decide) dX8_goesWith_65 ?_
              refine z_iconst dX8_goesWith_66 ?_
              rw [ep]
              refine z_icmp_ne 74 (by omega) (by omega) dX8_goesWith_67 (by decide) (fun h_67 => ?_) (fun h_67 => ?_)
              · refine z_iconst dX8_goesWith_74 ?_
                exact z_bret (b := false) rfl dX8_goesWith_75 (zret_b (gone_b w hm hk ⟨fun z => (by cases z), fun z => (by unfold gwP at z; omega)⟩))
              · refine z_iconst dX8_goesWith_70 ?_
                refine z_goto 75 dX8_goesWith_71 (by decide) ?_
                exact z_bret (b := true) rfl dX8_goesWith_75 (zret_b (gone_b w hm hk ⟨fun _ => (by unfold gwP; omega), fun _ => rfl⟩))
theorem getD_l {a b : List Nat} {i : Nat} (hi : i < a.length) : (a ++ b).getD i 0 = a.getD i 0 := by
  rw [List.getD_eq_getElem?_getD, List.getD_eq_getElem?_getD, List.getElem?_append_left hi]
theorem getD_r {a : List Nat} {x : Nat} : (a ++ [x]).getD a.length 0 = x := by
  rw [List.getD_eq_getElem?_getD, List.getElem?_append_right (Nat.le_refl _), Nat.sub_self]; rfl
theorem t8_resultWithout (l : Launch) {g : zG} (hg : zAmOk g) {d : zD} {h : Hl} (w : Wf h) (H : HM d h) (K : LKM d h) {ord : Nat → Nat} (O : ∀ i, i < hN h → d 56 i = ord i) (ho : Ord (hN h) ord) {m t : Nat} (hm : m < hN h) : zC l g mX8_resultWithout 6 [zr g 37, zi (m : Int), zi (t : Int)] d (fun r d' => r = some (zi (finF h t (flL ord (goneF h m) (hN h)) 0 : Nat)) ∧ (zF [37, 58, 60, 61] d d' ∧ ∀ i, i ≠ 37 → d' 37 i = d 37 i)) := by
  have w3 := w.2.2.1
  have key : ∀ (x : zX) (r k : Nat) (d1 : zD), zF [58] d d1 → RLs d1 (flL ord (goneF h m) k) → k ≤ hN h → hN h - k < r → zV l x g mX8_resultWithout 6 (fun r d' => r = some (zi (finF h t (flL ord (goneF h m) (hN h)) 0 : Nat)) ∧ (zF [37, 58, 60, 61] d d' ∧ ∀ i, i ≠ 37 → d' 37 i = d 37 i)) 5 [(0, zr g 37), (1, zi (m : Int)), (2, zi (t : Int)), (3, zi ((flL ord (goneF h m) k).length : Nat)), (4, zi (k : Int))] [] d1 := by
    intro x r
    induction r with
    | zero => intro k d1 a1 a2 a3 hr; omega
    | succ r ih =>
      intro k d1 F R hk hr
      have H1 : HM d1 h := HM.of H F (by decide)
      have h1 : d1 38 1 = hN h := H1.1.2.1
      have hfl := flL_len ord (goneF h m) k
      refine z_iload 4 dX8_resultWithout_5 rfl ?_
      refine z_aload_n 0 dX8_resultWithout_7 rfl rfl ?_
      refine z_getr fl_RX8_7 (by decide) rfl rfl dX8_resultWithout_8 ?_
      refine z_iconst dX8_resultWithout_11 ?_
      refine z_iald 1 (by decide) rfl rfl (by decide) (by decide) dX8_resultWithout_12 ?_
      rw [h1]
      refine z_icmp_ge 53 (by omega) (by omega) dX8_resultWithout_13 (by decide) (fun h_13 => ?_) (fun h_13 => ?_)
      · refine z_aload_n 0 dX8_resultWithout_53 rfl rfl ?_
        refine z_iload_n 3 dX8_resultWithout_54 rfl rfl ?_
        refine z_iload_n 2 dX8_resultWithout_55 rfl rfl ?_
        have hkN : k = hN h := by omega
        subst hkN
        refine z_cv (t8_worksOut l hg w H1 (K.of (F 59 (by decide))) (ls := flL ord (goneF h m) (hN h)) R (by omega) (fun q hq => flL_lt ho (Nat.le_refl _) hq) (t := t)) mk_X8_worksOut mi_X8_worksOut ml_RX8_278 (by omega) (by decide) rfl rfl rfl rfl (Nat.le_of_ble_eq_true rfl) dX8_resultWithout_56 (zvoid fun d_56 q_56 => ?_)
        obtain ⟨s1, s2, s3, s4⟩ := q_56
        refine z_aload_n 0 dX8_resultWithout_59 rfl rfl ?_
        refine z_getr fl_RX8_76 (by decide) rfl rfl dX8_resultWithout_60 ?_
        refine z_iconst dX8_resultWithout_63 ?_
        refine z_iald 0 (by decide) rfl rfl (by decide) (by decide) dX8_resultWithout_64 ?_
        have e := (s4 0 0 (Nat.le_refl _) (Nat.zero_le _) (by decide)).1
        rw [show (0 : Nat) = 64 * 0 + 0 from rfl, e, show eM h t (flL ord (goneF h m) (hN h)) 0 0 = finF h t (flL ord (goneF h m) (hN h)) 0 by rw [eM, mo_zero]; rfl]
        exact z_iret rfl dX8_resultWithout_65 (⟨rfl, (zF.mono F (by decide)).tr (zF.mono s1 (by decide)), fun i hi => by rw [s2 i hi, F 37 (by decide)]⟩)
      · have e : d1 56 k = ord k := by rw [F 56 (by decide)]; exact O k (by omega)
        have okk := ho.1 k (by omega)
        have hs := flL_s ord (goneF h m) k
        refine z_aload_n 0 dX8_resultWithout_16 rfl rfl ?_
        refine z_aload_n 0 dX8_resultWithout_17 rfl rfl ?_
        refine z_getr fl_RX8_64 (by decide) rfl rfl dX8_resultWithout_18 ?_
        refine z_iload 4 dX8_resultWithout_21 rfl ?_
        refine z_iald _ (by decide) rfl rfl (by omega) (by decide) dX8_resultWithout_23 ?_
        rw [e]
        refine z_iload_n 1 dX8_resultWithout_24 rfl rfl ?_
        refine z_cv (t8_goesWith l hg w H1 (m := m) (k := ord k) hm okk) mk_X8_goesWith mi_X8_goesWith ml_RX8_296 (by omega) (by decide) rfl rfl rfl rfl (Nat.le_of_ble_eq_true rfl) dX8_resultWithout_25 (zpure ?_)
        refine z_if_ne_b 47 dX8_resultWithout_28 (by decide) (fun h_28 => ?_) (fun h_28 => ?_)
        · refine z_iinc 4 (L' := [(0, _), (1, _), (2, _), (3, _), (4, _)]) dX8_resultWithout_47 (by decide) rfl rfl rfl ?_
          refine z_goto 5 dX8_resultWithout_50 (by decide) ?_
          rw [if_pos h_28, List.append_nil] at hs
          refine z_LL _ ?_ (ih (k + 1) d1 F (by rw [hs]; exact R) (by omega) (by omega))
          rw [hs]; rfl
        · refine z_aload_n 0 dX8_resultWithout_31 rfl rfl ?_
          refine z_getr fl_RX8_70 (by decide) rfl rfl dX8_resultWithout_32 ?_
          refine z_iload_n 3 dX8_resultWithout_35 rfl rfl ?_
          refine z_aload_n 0 dX8_resultWithout_36 rfl rfl ?_
          refine z_getr fl_RX8_64 (by decide) rfl rfl dX8_resultWithout_37 ?_
          refine z_iload 4 dX8_resultWithout_40 rfl ?_
          refine z_iald _ (by decide) rfl rfl (by omega) (by decide) dX8_resultWithout_42 ?_
          rw [e]
          refine z_iast (flL ord (goneF h m) k).length (by decide) rfl rfl (by omega) (by decide) dX8_resultWithout_43 ?_
          refine z_iinc 3 (L' := [(0, _), (1, _), (2, _), (3, _), (4, _)]) dX8_resultWithout_44 (by decide) rfl rfl rfl ?_
          refine z_iinc 4 (L' := [(0, _), (1, _), (2, _), (3, _), (4, _)]) dX8_resultWithout_47 (by decide) rfl rfl rfl ?_
          refine z_goto 5 dX8_resultWithout_50 (by decide) ?_
          rw [if_neg (by rw [h_28]; decide)] at hs
          refine z_LL _ ?_ (ih (k + 1) _ (F.up (by decide)) (fun i hi => ?_) (by omega) (by omega))
          · rw [hs, List.length_append]; rfl
          · rw [hs, List.length_append] at hi
            have hi' : i < (flL ord (goneF h m) k).length + 1 := hi
            rw [zu_row, hs]
            split
            · rename_i e; rw [e, getD_r]
            · rw [getD_l (by omega)]; exact R i (by omega)
  refine zC_of (L := [(0, _), (1, _), (2, _)]) mk_X8_resultWithout (Nat.le_of_ble_eq_true rfl) hg rfl (fun x => ?_)
  refine z_iconst dX8_resultWithout_0 ?_
  refine z_istore_n (L' := [(0, _), (1, _), (2, _), (3, _)]) dX8_resultWithout_1 rfl (by decide) rfl rfl ?_
  refine z_iconst dX8_resultWithout_2 ?_
  refine z_istore (L' := [(0, _), (1, _), (2, _), (3, _), (4, _)]) dX8_resultWithout_3 (by decide) rfl rfl ?_
  exact key x (hN h + 1) 0 d zF.rf (fun i hi => absurd hi (by show ¬ i < 0; omega)) (by omega) (by omega)
theorem t8_without (l : Launch) {g : zG} (hg : zAmOk g) {d : zD} {h : Hl} {ord : Nat → Nat} {tl : Nat} {tp : Nat → Nat} {fl : Int} (I : IM d h ord tl tp fl) {m a : Int} (hm : zin m) (ha : zin a) : zC l g mX8_without 7 [zr g 37, zi m, zi a] d (anM d h ord tl tp fl (wioS h ord m a)) := by
  obtain ⟨w, H, O, T, hfl, ho⟩ := id (I.ra 0)
  refine zC_of (L := [(0, _), (1, _), (2, _)]) mk_X8_without (Nat.le_of_ble_eq_true rfl) hg rfl (fun x => ?_)
  refine z_aload_n 0 dX8_without_0 rfl rfl ?_
  refine z_iconst dX8_without_1 ?_
  refine z_puti fp_RX8_95 (by decide) rfl rfl dX8_without_2 ?_
  refine z_aload_n 0 dX8_without_5 rfl rfl ?_
  refine z_iload_n 1 dX8_without_6 rfl rfl ?_
  refine z_cv (t8_isMotion l hg w H hm) mk_X8_isMotion mi_X8_isMotion ml_RX8_299 (by omega) (by decide) rfl rfl rfl rfl (Nat.le_of_ble_eq_true rfl) dX8_without_7 (zpure ?_)
  refine z_if_eq_b 21 dX8_without_10 (by decide) (fun h_10 => ?_) (fun h_10 => ?_)
  · refine z_iconst dX8_without_21 ?_
    have hno : ¬ (mB h m = true ∧ tB h a = true) := fun z => by rw [h_10] at z; cases z.1
    exact z_iret rfl dX8_without_22 (anM.rf (MF.ra 0) (I.ra 0) (by rw [wioS, if_neg hno]))
  · refine z_aload_n 0 dX8_without_13 rfl rfl ?_
    refine z_iload_n 2 dX8_without_14 rfl rfl ?_
    refine z_cv (t8_isSet l hg w H ha) mk_X8_isSetOfVoters mi_X8_isSetOfVoters ml_RX8_281 (by omega) (by decide) rfl rfl rfl rfl (Nat.le_of_ble_eq_true rfl) dX8_without_15 (zpure ?_)
    refine z_if_ne_b 23 dX8_without_18 (by decide) (fun h_18 => ?_) (fun h_18 => ?_)
    · have h10 := of_decide_eq_true h_10
      have h18 := of_decide_eq_true h_18
      refine z_aload_n 0 dX8_without_23 rfl rfl ?_
      refine z_cv (t8_laysLikes l hg w H) mk_X8_laysLikes mi_X8_laysLikes ml_RX8_272 (by omega) (by decide) rfl rfl rfl rfl (Nat.le_of_ble_eq_true rfl) dX8_without_24 (zvoid fun d_24 q_24 => ?_)
      obtain ⟨s1, s2⟩ := q_24
      refine z_aload_n 0 dX8_without_27 rfl rfl ?_
      refine z_iload_n 1 dX8_without_28 rfl rfl ?_
      refine z_iload_n 2 dX8_without_29 rfl rfl ?_
      refine z_top2 ((m.toNat : Nat) : Int) (by omega) ?_
      refine z_top ((a.toNat : Nat) : Int) (by omega) ?_
      refine z_cv (t8_resultWithout l hg w (HM.of H s1 (by decide)) s2 (ord := ord) (fun i hi => by rw [s1 56 (by decide)]; exact O i hi) ho (m := m.toNat) (t := a.toNat) (by omega)) mk_X8_resultWithout mi_X8_resultWithout ml_RX8_302 (by omega) (by decide) rfl rfl rfl rfl (Nat.le_of_ble_eq_true rfl) dX8_without_30 (fun r_30 d_30 q_30 => ?_)
      obtain ⟨rfl, f1, f2⟩ := q_30
      show zV l x g mX8_without 7 _ _ _ [_] _
      exact z_iret rfl dX8_without_33 (anM.rf ((MF.ra 0).tr ((MF.of s1 (by decide)).tr (MF.of f1 (by decide)))) (((I.ra 0).of s1 (by decide) (by rw [s1 37 (by decide)]) (by rw [s1 37 (by decide)])).of f1 (by decide) (f2 21 (by decide)) (f2 22 (by decide))) (by rw [wioS, if_pos ⟨h_10, h_18⟩]))
    · refine z_iconst dX8_without_21 ?_
      have hno : ¬ (mB h m = true ∧ tB h a = true) := fun z => by rw [h_18] at z; cases z.2
      exact z_iret rfl dX8_without_22 (anM.rf (MF.ra 0) (I.ra 0) (by rw [wioS, if_neg hno]))
theorem t8_killers (l : Launch) {g : zG} (hg : zAmOk g) {d : zD} {h : Hl} {ord : Nat → Nat} {tl : Nat} {tp : Nat → Nat} {fl : Int} (I : IM d h ord tl tp fl) {a : Int} (ha : zin a) : zC l g mX8_killers 7 [zr g 37, zi a] d (anM d h ord tl tp fl (kilS h ord a)) := by
  obtain ⟨w, H, O, T, hfl, ho⟩ := id (I.ra 0)
  have w3 := w.2.2.1
  have key : ∀ (x : zX) (t : Nat), a = (t : Int) → tB h a = true → finF h t (ordL h ord) 0 = 0 → ∀ (r k : Nat) (d1 : zD), MF d d1 → IM d1 h ord tl tp fl → LKM d1 h → k ≤ hN h → hN h - k < r → zV l x g mX8_killers 7 (anM d h ord tl tp fl (kilS h ord a)) 35 [(0, zr g 37), (1, zi a), (2, zi (klN h ord t k : Nat)), (3, zi (k : Int))] [] d1 := by
    intro x t hat ht hz r
    induction r with
    | zero => intro k d1 a1 a2 a3 a4 hr; omega
    | succ r ih =>
      intro k d1 F I1 K1 hk hr
      have h1 : d1 38 1 = hN h := I1.2.1.1.2.1
      refine z_iload_n 3 dX8_killers_35 rfl rfl ?_
      refine z_aload_n 0 dX8_killers_36 rfl rfl ?_
      refine z_getr fl_RX8_7 (by decide) rfl rfl dX8_killers_37 ?_
      refine z_iconst dX8_killers_40 ?_
      refine z_iald 1 (by decide) rfl rfl (by decide) (by decide) dX8_killers_41 ?_
      rw [h1]
      refine z_icmp_ge 70 (by omega) (by omega) dX8_killers_42 (by decide) (fun h_42 => ?_) (fun h_42 => ?_)
      · refine z_iload_n 2 dX8_killers_70 rfl rfl ?_
        exact z_iret rfl dX8_killers_71 (anM.rf F I1 (by rw [kilS, if_pos ht, hat, Int.toNat_natCast, if_pos hz, show k = hN h by omega]))
      · have hb := bit_le (show k < hN h by omega) w3
        have hfl2 := finF_lt w t (flL ord (goneF h k) (hN h)) 0
        refine z_iload_n 2 dX8_killers_45 rfl rfl ?_
        refine z_aload_n 0 dX8_killers_46 rfl rfl ?_
        refine z_iload_n 3 dX8_killers_47 rfl rfl ?_
        refine z_iload_n 1 dX8_killers_48 rfl rfl ?_
        rw [hat]
        refine z_cv (t8_resultWithout l hg w I1.2.1 K1 (ord := ord) I1.2.2.1 ho (m := k) (t := t) (by omega)) mk_X8_resultWithout mi_X8_resultWithout ml_RX8_302 (by omega) (by decide) rfl rfl rfl rfl (Nat.le_of_ble_eq_true rfl) dX8_killers_49 (fun r_49 d_49 q_49 => ?_)
        obtain ⟨rfl, f1, f2⟩ := q_49
        rw [← hat]
        show zV l x g mX8_killers 7 _ _ _ [_, _] _
        refine z_if_eq 61 (by omega) dX8_killers_52 (by decide) (fun h_52 => ?_) (fun h_52 => ?_)
        · refine z_iconst dX8_killers_61 ?_
          refine z_top ((0 : Nat) : Int) rfl ?_
          refine z_ior _ (zor _ _) dX8_killers_62 ?_
          refine z_istore_n (L' := [(0, _), (1, _), (2, _), (3, _)]) dX8_killers_63 rfl (by decide) rfl rfl ?_
          refine z_iinc 3 (L' := [(0, _), (1, _), (2, _), (3, _)]) dX8_killers_64 (by decide) rfl rfl rfl ?_
          refine z_goto 35 dX8_killers_67 (by decide) ?_
          refine z_LL _ ?_ (ih (k + 1) d_49 (F.tr (MF.of f1 (by decide))) (I1.of f1 (by decide) (f2 21 (by decide)) (f2 22 (by decide))) (K1.of (f1 59 (by decide))) (by omega) (by omega))
          rw [klN, if_neg (by omega), Nat.or_zero]; rfl
        · refine z_iconst dX8_killers_55 ?_
          refine z_iload_n 3 dX8_killers_56 rfl rfl ?_
          refine z_ishl _ (zshl (s := 1) (m := k) (by omega) (by omega)) dX8_killers_57 ?_
          refine z_goto 62 dX8_killers_58 (by decide) ?_
          rw [Nat.one_mul]
          refine z_ior _ (zor _ _) dX8_killers_62 ?_
          refine z_istore_n (L' := [(0, _), (1, _), (2, _), (3, _)]) dX8_killers_63 rfl (by decide) rfl rfl ?_
          refine z_iinc 3 (L' := [(0, _), (1, _), (2, _), (3, _)]) dX8_killers_64 (by decide) rfl rfl rfl ?_
          refine z_goto 35 dX8_killers_67 (by decide) ?_
          refine z_LL _ ?_ (ih (k + 1) d_49 (F.tr (MF.of f1 (by decide))) (I1.of f1 (by decide) (f2 21 (by decide)) (f2 22 (by decide))) (K1.of (f1 59 (by decide))) (by omega) (by omega))
          rw [klN, if_pos (by omega)]; rfl
  refine zC_of (L := [(0, _), (1, _)]) mk_X8_killers (Nat.le_of_ble_eq_true rfl) hg rfl (fun x => ?_)
  refine z_aload_n 0 dX8_killers_0 rfl rfl ?_
  refine z_iconst dX8_killers_1 ?_
  refine z_puti fp_RX8_95 (by decide) rfl rfl dX8_killers_2 ?_
  refine z_aload_n 0 dX8_killers_5 rfl rfl ?_
  refine z_iload_n 1 dX8_killers_6 rfl rfl ?_
  refine z_cv (t8_isSet l hg w H ha) mk_X8_isSetOfVoters mi_X8_isSetOfVoters ml_RX8_281 (by omega) (by decide) rfl rfl rfl rfl (Nat.le_of_ble_eq_true rfl) dX8_killers_7 (zpure ?_)
  refine z_if_ne_b 15 dX8_killers_10 (by decide) (fun h_10 => ?_) (fun h_10 => ?_)
  · have h10 := of_decide_eq_true h_10
    have hat : a = ((a.toNat : Nat) : Int) := by omega
    refine z_aload_n 0 dX8_killers_15 rfl rfl ?_
    refine z_iload_n 1 dX8_killers_16 rfl rfl ?_
    refine z_top ((a.toNat : Nat) : Int) hat ?_
    refine z_cv (t8_asks l hg w H O ho (t := a.toNat)) mk_X8_asks mi_X8_asks ml_RX8_284 (by omega) (by decide) rfl rfl rfl rfl (Nat.le_of_ble_eq_true rfl) dX8_killers_17 (zvoid fun d_17 q_17 => ?_)
    obtain ⟨s1, s2, s3, s4, s5, sK⟩ := q_17
    have e := (s5 0 0 (Nat.le_refl _) (by omega) (by decide)).1
    have e0 : d_17 60 0 = (finF h a.toNat (ordL h ord) 0 : Nat) := by rw [show (0 : Nat) = 64 * 0 + 0 from rfl, e, eM, mo_zero]; rfl
    have hfl2 := finF_lt w a.toNat (ordL h ord) 0
    have I2 := (I.ra 0).of s1 (by decide) (s2 21 (by decide)) (s2 22 (by decide))
    refine z_iconst dX8_killers_20 ?_
    refine z_istore_n (L' := [(0, _), (1, _), (2, _)]) dX8_killers_21 rfl (by decide) rfl rfl ?_
    refine z_aload_n 0 dX8_killers_22 rfl rfl ?_
    refine z_getr fl_RX8_76 (by decide) rfl rfl dX8_killers_23 ?_
    refine z_iconst dX8_killers_26 ?_
    refine z_iald 0 (by decide) rfl rfl (by decide) (by decide) dX8_killers_27 ?_
    rw [e0]
    refine z_if_eq 33 (by omega) dX8_killers_28 (by decide) (fun h_28 => ?_) (fun h_28 => ?_)
    · refine z_iconst dX8_killers_33 ?_
      refine z_istore_n (L' := [(0, _), (1, _), (2, _), (3, _)]) dX8_killers_34 rfl (by decide) rfl rfl ?_
      exact key x a.toNat hat h_10 (by omega) (hN h + 1) 0 d_17 ((MF.ra 0).tr (MF.of s1 (by decide))) I2 sK (by omega) (by omega)
    · refine z_iconst dX8_killers_31 ?_
      exact z_iret rfl dX8_killers_32 (anM.rf ((MF.ra 0).tr (MF.of s1 (by decide))) I2 (by rw [kilS, if_pos h_10, if_neg (by omega)]))
  · refine z_iconst dX8_killers_13 ?_
    exact z_iret rfl dX8_killers_14 (anM.rf (MF.ra 0) (I.ra 0) (by rw [kilS, if_neg (by rw [h_10]; decide)]))
