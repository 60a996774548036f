/-! the reference reads: voters, joints, statements, texts -/
def VM (d : zD) (h : Hl) (b : Bool) (wr : Nat → Int) : Prop := HNw d h ∧ d 37 30 = zb b ∧ Wf h ∧ ∀ c, c < 8 → d 49 (8 * hV h + c) = wr c
theorem VM.of {d d' : zD} {h : Hl} {b : Bool} {wr : Nat → Int} (H : VM d h b wr) {ps : List Nat} (e : MR ps d d') (hp : 30 ∉ ps) : VM d' h b wr := ⟨HMg.of H.1 (fun p hp => e.1 p (by simp; omega)), by rw [e.2 30 hp]; exact H.2.1, H.2.2.1, fun c hc => by rw [e.1 49 (by decide)]; exact H.2.2.2 c hc⟩
theorem VM.up {d : zD} {h : Hl} {b : Bool} {wr : Nat → Int} (H : VM d h b wr) {k : Nat} {y : Int} (hk : k < 8) : VM (zu d 49 (8 * hV h + k) y) h b (fun c => if c = k then y else wr c) := by
  have aF : zF [49] d (zu d 49 (8 * hV h + k) y) := zF.rf.up (by decide)
  obtain ⟨⟨hh, q2, q3, q4⟩, r1, r2, r3⟩ := H
  refine ⟨⟨by rw [aF 39 (by decide)]; exact hh, fun i hi => by rw [aF 44 (by decide), aF 45 (by decide), aF 46 (by decide), aF 47 (by decide)]; exact q2 i hi, fun i hi => ?_, fun i hi => by rw [aF 53 (by decide), aF 54 (by decide), aF 55 (by decide)]; exact q4 i hi⟩, by rw [aF 37 (by decide)]; exact r1, r2, fun c hc => ?_⟩
  · rw [zu_row, if_neg (by omega)]; exact q3 i hi
  · rw [zu_row]
    dsimp only
    by_cases e : c = k
    · rw [if_pos e, if_pos (by omega)]
    · rw [if_neg e, if_neg (by omega)]; exact r3 c hc
theorem VM.end {d : zD} {h : Hl} {b : Bool} {wr : Nat → Int} (H : VM d h b wr) (hv : hV h < 9) (hw : ∀ c, -9 ≤ wr c ∧ wr c ≤ 9) : HN (zu d 39 3 ((hV h : Int) + 1)) (addV h wr) b := by
  have aF : zF [39] d (zu d 39 3 ((hV h : Int) + 1)) := zF.rf.up (by decide)
  obtain ⟨⟨⟨h0, h1, h2, h3, h4, h5⟩, q2, q3, q4⟩, r1, r2, r3⟩ := H
  refine ⟨⟨⟨by simp [zu]; exact h0, by simp [zu]; exact h1, by simp [zu]; exact h2, by rw [zu_at]; rfl, by simp [zu]; exact h4, by simp [zu]; exact h5⟩, fun i hi => by rw [aF 44 (by decide), aF 45 (by decide), aF 46 (by decide), aF 47 (by decide)]; exact q2 i hi, fun i hi => ?_, fun i hi => by rw [aF 53 (by decide), aF 54 (by decide), aF 55 (by decide)]; exact q4 i hi⟩, by rw [aF 37 (by decide)]; exact r1, Wf_addV r2 hv hw⟩
  rw [aF 49 (by decide)]
  have hi' : i < 8 * (hV h + 1) := hi
  show d 49 i = if 8 * hV h ≤ i ∧ i < 8 * hV h + 8 then wr (i - 8 * hV h) else hwe h i
  by_cases e : 8 * hV h ≤ i
  · rw [if_pos ⟨e, by omega⟩, ← r3 (i - 8 * hV h) (by omega)]; congr 1; omega
  · rw [if_neg (by omega)]; exact q3 i (by omega)
theorem pc8 : ∀ a, a < 256 → pcN a 8 ≤ 8 := by decide +kernel
theorem and_bit (s c : Nat) : s &&& 2 ^ c = 0 ↔ s.testBit c = false := by
  constructor
  · intro h
    have := congrArg (fun z => z.testBit c) h
    simp only [Nat.testBit_and, Nat.testBit_two_pow_self, Bool.and_true, Nat.zero_testBit] at this
    exact this
  · intro h
    apply Nat.eq_of_testBit_eq
    intro i
    rw [Nat.testBit_and, Nat.testBit_two_pow, Nat.zero_testBit]
    by_cases e : c = i
    · subst e; rw [h]; rfl
    · simp [e]
theorem t8_readVoter (l : Launch) {g : zG} (hg : zAmOk g) {d : zD} {tp : Nat → Nat} {tl p : Nat} {h : Hl} {b : Bool} (T : TM d tp tl) (C : CU d tp tl (en tp tl p)) (H : HN d h b) : zC l g mX8_readVoter 4 [zr g 37, zi (sk tp tl p : Nat)] d (PM d (spVot tp tl h b p) (okM tp tl)) := by
  have w4 := H.2.2.2.2.2.1
  have t2 := T.2.1
  obtain ⟨⟨h0, h1, h2, h3, h4, h5⟩, q2, q3, q4⟩ := id H.1
  have key2 : ∀ (x : zX) (f q seen : Nat) (wr : Nat → Int) (d1 : zD), hV h < 9 → f + pcN seen 8 = 9 → seen < 2 ^ 8 → MPF d d1 → d1 37 24 = d 37 24 → CU d1 tp tl q → VM d1 h b wr → (∀ c, -9 ≤ wr c ∧ wr c ≤ 9) → spVo tp tl 9 (en tp tl p) 0 (fun _ => 0) = spVo tp tl f q seen wr → zV l x g mX8_readVoter 4 (PM d (spVot tp tl h b p) (okM tp tl)) 51 [(0, zr g 37), (1, zi (sk tp tl p : Nat)), (2, zi (hV h : Int)), (3, zi (seen : Int))] [] d1 := by
    intro x f
    induction f with
    | zero => intro q seen wr d1 hv9 hf hse; have := pc8 seen hse; omega
    | succ f ih =>
      intro q seen wr d1 hv9 hf hse f1 f2 C1 V hw hsp
      have hq := C1.1
      have hs1 := sk_le (tp := tp) hq
      have he1 := en_le (tp := tp) hq
      have T1 : TM d1 tp tl := f1.TM T
      refine z_aload_n 0 dX8_readVoter_51 rfl rfl ?_
      refine z_cv (t8_isWord l hg T1 C1) mk_X8_isWord mi_X8_isWord ml_RX8_143 (by omega) (by decide) rfl rfl rfl rfl (Nat.le_of_ble_eq_true rfl) dX8_readVoter_52 (fun r_52 d_52 q_52 => ?_)
      obtain ⟨rfl, g1, g2⟩ := q_52
      show zV l x g mX8_readVoter 4 _ _ _ [_] _
      refine z_if_eq_b 156 dX8_readVoter_55 (by decide) (fun h_55 => ?_) (fun h_55 => ?_)
      · refine z_aload_n 0 dX8_readVoter_156 rfl rfl ?_
        refine z_getr fl_RX8_13 (by decide) rfl rfl dX8_readVoter_157 ?_
        refine z_iconst dX8_readVoter_160 ?_
        refine z_dup2 dX8_readVoter_161 rfl rfl ?_
        refine z_iald 3 (by decide) rfl rfl (by decide) (by decide) dX8_readVoter_162 ?_
        have V2 := V.of g1 (by decide)
        rw [V2.1.1.2.2.2.1]
        refine z_iconst dX8_readVoter_163 ?_
        refine z_iadd dX8_readVoter_164 ?_
        refine z_iast 3 (by decide) rfl rfl (by decide) (by decide) dX8_readVoter_165 ?_
        refine z_iconst dX8_readVoter_166 ?_
        have hk1 := of_decide_eq_false h_55
        have hend : spVo tp tl (f + 1) q seen wr = .inr (q, wr) := if_neg hk1
        exact z_bret (b := true) rfl dX8_readVoter_167 (PM.t (v := (q, addV h wr, b)) (by rw [spVot, if_neg (by omega), hsp, hend]) ((f1.tr (g1.MPF (by decide))).ups (by decide)) (by rw [zu_ne (by decide), g1.2 24 (by decide), f2]) ⟨CU.sk hq (by rw [zu_ne (by decide)]; exact g2), V2.end hv9 hw⟩)
      · have hk1 := of_decide_eq_true h_55
        obtain ⟨hlt, hren⟩ := kd1_en hk1
        have helt := en_lt (tp := tp) (tl := tl) (p := q) (by omega)
        have hall := rn_all (tp := tp) (tl := tl) (lo := 97) (hi := 122) (p := sk tp tl q) (i := sk tp tl q) (by omega) (by rw [← hren]; omega)
        have hsu : spVo tp tl (f + 1) q seen wr = (if en tp tl q - sk tp tl q ≠ 1 ∨ ¬ tp (sk tp tl q) - 97 < 8 then .inl (1 + 8 * sk tp tl q) else if seen.testBit (tp (sk tp tl q) - 97) = true then .inl (3 + 8 * sk tp tl q) else match spWei tp tl (en tp tl q) with
            | .inl e => .inl e
            | .inr v => spVo tp tl f v.1 (seen ||| 2 ^ (tp (sk tp tl q) - 97)) (fun c => if c = tp (sk tp tl q) - 97 then v.2 else wr c)) := if_pos hk1
        have T2 : TM d_52 tp tl := (g1.MPF (by decide)).TM T1
        refine z_aload_n 0 dX8_readVoter_58 rfl rfl ?_
        refine z_cv (t8_readWord l hg T2 hq hk1 g2) mk_X8_readWord mi_X8_readWord ml_RX8_147 (by omega) (by decide) rfl rfl rfl rfl (Nat.le_of_ble_eq_true rfl) dX8_readVoter_59 (fun r_59 d_59 q_59 => ?_)
        obtain ⟨rfl, c1, c2, c3, c4, c5⟩ := q_59
        have hR : MR [23, 25, 26, 28, 29] d1 d_59 := (g1.mono (by decide)).tr (c1.mono (by decide))
        have T3 : TM d_59 tp tl := (hR.MPF (by decide)).TM T1
        obtain ⟨u1, u2⟩ := T3.2.2 (sk tp tl q) hlt
        show zV l x g mX8_readVoter 4 _ _ _ [_] _
        refine z_pop2 dX8_readVoter_62 rfl ?_
        refine z_aload_n 0 dX8_readVoter_63 rfl rfl ?_
        refine z_geti fl_RX8_123 (by decide) rfl rfl dX8_readVoter_64 ?_
        rw [c4]
        have hst : -1 ≤ stI (wsN tp (sk tp tl q) (en tp tl q - sk tp tl q)) ∧ stI (wsN tp (sk tp tl q) (en tp tl q - sk tp tl q)) < 256 := by
          cases hws : wsN tp (sk tp tl q) (en tp tl q - sk tp tl q) with
          | none => exact ⟨by decide, by decide⟩
          | some s => have := wsN_lt _ _ hws; exact ⟨by show -1 ≤ (s : Int); omega, by show (s : Int) < 256; omega⟩
        have hws1 : en tp tl q - sk tp tl q = 1 → (tp (sk tp tl q) - 97 < 8 → wsN tp (sk tp tl q) (en tp tl q - sk tp tl q) = some (2 ^ (tp (sk tp tl q) - 97))) ∧ (¬ tp (sk tp tl q) - 97 < 8 → wsN tp (sk tp tl q) (en tp tl q - sk tp tl q) = none) := by
          intro e
          rw [e, wsN, wsN]
          dsimp only
          refine ⟨fun z => ?_, fun z => ?_⟩
          · rw [if_pos ⟨z, Nat.zero_testBit _⟩, Nat.zero_or]; rfl
          · rw [if_neg (fun y => z y.1)]
        refine z_if_lt 78 (by omega) dX8_readVoter_67 (by decide) (fun h_67 => ?_) (fun h_67 => ?_)
        · refine z_aload_n 0 dX8_readVoter_78 rfl rfl ?_
          refine z_iconst dX8_readVoter_79 ?_
          refine z_aload_n 0 dX8_readVoter_80 rfl rfl ?_
          refine z_geti fl_RX8_126 (by decide) rfl rfl dX8_readVoter_81 ?_
          rw [c3]
          refine z_cv (t8_fails l hg d_59 (k := 1) (s := sk tp tl q)) mk_X8_fails mi_X8_fails ml_RX8_137 (by omega) (by decide) rfl rfl rfl rfl (Nat.le_of_ble_eq_true rfl) dX8_readVoter_84 (fun r_84 d_84 q_84 => ?_)
          obtain ⟨rfl, rfl⟩ := q_84
          show zV l x g mX8_readVoter 4 _ _ _ [_] _
          have hbad : en tp tl q - sk tp tl q ≠ 1 ∨ ¬ tp (sk tp tl q) - 97 < 8 := Classical.byContradiction (fun z => by
            have z1 : en tp tl q - sk tp tl q = 1 := by omega
            rw [(hws1 z1).1 (by omega)] at h_67
            exact absurd h_67 (Int.not_lt.mpr (Int.natCast_nonneg (2 ^ (tp (sk tp tl q) - 97)))))
          exact z_bret rfl dX8_readVoter_87 (PM.f (by rw [spVot, if_neg (by omega), hsp, hsu, if_pos hbad]) ((f1.tr (hR.MPF (by decide))).up (by decide)) (zu_at _ _ _ _))
        · refine z_aload_n 0 dX8_readVoter_70 rfl rfl ?_
          refine z_geti fl_RX8_120 (by decide) rfl rfl dX8_readVoter_71 ?_
          refine z_iconst dX8_readVoter_74 ?_
          rw [c5]
          refine z_icmp_eq 88 (by omega) (by omega) dX8_readVoter_75 (by decide) (fun h_75 => ?_) (fun h_75 => ?_)
          · have hl1 : en tp tl q - sk tp tl q = 1 := by omega
            have hc8 : tp (sk tp tl q) - 97 < 8 := Classical.byContradiction (fun z => by
              rw [(hws1 hl1).2 z] at h_67
              exact absurd h_67 (by decide))
            have c4' : d_59 37 28 = ((2 ^ (tp (sk tp tl q) - 97) : Nat) : Int) := by rw [c4, (hws1 hl1).1 hc8]; rfl
            have hpw : 2 ^ (tp (sk tp tl q) - 97) < 2 ^ 8 := Nat.pow_lt_pow_right (by decide) hc8
            have hle : seen &&& 2 ^ (tp (sk tp tl q) - 97) ≤ seen := Nat.and_le_left
            refine z_iload_n 3 dX8_readVoter_88 rfl rfl ?_
            refine z_aload_n 0 dX8_readVoter_89 rfl rfl ?_
            refine z_geti fl_RX8_123 (by decide) rfl rfl dX8_readVoter_90 ?_
            rw [c4']
            refine z_iand _ (zand _ _) dX8_readVoter_93 ?_
            refine z_if_eq 107 (by omega) dX8_readVoter_94 (by decide) (fun h_94 => ?_) (fun h_94 => ?_)
            · have hbit : seen.testBit (tp (sk tp tl q) - 97) = false := (and_bit _ _).mp (by omega)
              refine z_aload_n 0 dX8_readVoter_107 rfl rfl ?_
              refine z_getr fl_RX8_67 (by decide) rfl rfl dX8_readVoter_108 ?_
              refine z_aload_n 0 dX8_readVoter_111 rfl rfl ?_
              refine z_geti fl_RX8_126 (by decide) rfl rfl dX8_readVoter_112 ?_
              rw [c3]
              refine z_iald (sk tp tl q) (by decide) rfl rfl (by omega) (by decide) dX8_readVoter_115 ?_
              refine z_bipush dX8_readVoter_116 (by decide) ?_
              rw [u1]
              refine z_isub dX8_readVoter_118 ?_
              refine z_top ((tp (sk tp tl q) - 97 : Nat) : Int) (by omega) ?_
              refine z_istore (L' := [(0, _), (1, _), (2, _), (3, _), (4, _)]) dX8_readVoter_119 (by decide) rfl rfl ?_
              refine z_iload_n 3 dX8_readVoter_121 rfl rfl ?_
              refine z_aload_n 0 dX8_readVoter_122 rfl rfl ?_
              refine z_geti fl_RX8_123 (by decide) rfl rfl dX8_readVoter_123 ?_
              rw [c4']
              refine z_ior _ (zor _ _) dX8_readVoter_126 ?_
              refine z_istore_n (L' := [(0, _), (1, _), (2, _), (3, _), (4, _)]) dX8_readVoter_127 rfl (by decide) rfl rfl ?_
              refine z_aload_n 0 dX8_readVoter_128 rfl rfl ?_
              refine z_cv (t8_readWeight l hg T3 (CU.at he1.2 c2)) mk_X8_readWeight mi_X8_readWeight ml_RX8_179 (by omega) (by decide) rfl rfl rfl rfl (Nat.le_of_ble_eq_true rfl) dX8_readVoter_129 (z_pm (fun f_129 d_129 e_129 a_129 b_129 => ?_) (fun v_129 d_129 e_129 a_129 b_129 c_129 => ?_))
              · refine z_if_ne 137 (by decide) dX8_readVoter_132 (by decide) (fun h_132 => absurd h_132 (by decide)) (fun h_132 => ?_)
                refine z_iconst dX8_readVoter_135 ?_
                exact z_bret (b := false) rfl dX8_readVoter_136 (PM.f (by rw [spVot, if_neg (by omega), hsp, hsu, if_neg (by omega), if_neg (by rw [hbit]; decide), e_129]) ((f1.tr (hR.MPF (by decide))).tr a_129) b_129)
              · obtain ⟨y1, y2, y3⟩ := c_129
                have hwo := spWei_ok (q := v_129.1) (y := v_129.2) he1.2 e_129
                have hR2 : MR [23, 25, 26, 28, 29] d1 d_129 := hR.tr (y1.mono (by decide))
                refine z_if_ne 137 (by decide) dX8_readVoter_132 (by decide) (fun h_132 => ?_) (fun h_132 => absurd h_132 (by decide))
                refine z_aload_n 0 dX8_readVoter_137 rfl rfl ?_
                refine z_getr fl_RX8_43 (by decide) rfl rfl dX8_readVoter_138 ?_
                refine z_bipush dX8_readVoter_141 (by decide) ?_
                refine z_iload_n 2 dX8_readVoter_143 rfl rfl ?_
                refine z_imul dX8_readVoter_144 ?_
                refine z_iload 4 dX8_readVoter_145 rfl ?_
                refine z_iadd dX8_readVoter_147 ?_
                refine z_aload_n 0 dX8_readVoter_148 rfl rfl ?_
                refine z_geti fl_RX8_140 (by decide) rfl rfl dX8_readVoter_149 ?_
                rw [y3]
                refine z_iast (8 * hV h + (tp (sk tp tl q) - 97)) (by decide) rfl (by omega) (by omega) (by decide) dX8_readVoter_152 ?_
                refine z_goto 51 dX8_readVoter_153 (by decide) ?_
                refine z_sub (L' := [(0, _), (1, _), (2, _), (3, _)]) [0, 1, 2, 3] rfl ?_
                refine ih v_129.1 (seen ||| 2 ^ (tp (sk tp tl q) - 97)) (fun c => if c = tp (sk tp tl q) - 97 then v_129.2 else wr c) _ hv9 (by rw [pcN_or hbit, if_pos hc8]; omega) (or_lt hse hpw) ((f1.tr (hR2.MPF (by decide))).ups (by decide)) (by rw [zu_ne (by decide), hR2.2 24 (by decide), f2]) (y2.of (by rw [zu_ne (by decide)])) ((V.of hR2 (by decide)).up hc8) (fun c => ?_) ?_
                · split
                  · exact hwo.2.2
                  · exact hw c
                · rw [hsp, hsu, if_neg (by omega), if_neg (by rw [hbit]; decide), e_129]
            · refine z_aload_n 0 dX8_readVoter_97 rfl rfl ?_
              refine z_iconst dX8_readVoter_98 ?_
              refine z_aload_n 0 dX8_readVoter_99 rfl rfl ?_
              refine z_geti fl_RX8_126 (by decide) rfl rfl dX8_readVoter_100 ?_
              rw [c3]
              refine z_cv (t8_fails l hg d_59 (k := 3) (s := sk tp tl q)) mk_X8_fails mi_X8_fails ml_RX8_137 (by omega) (by decide) rfl rfl rfl rfl (Nat.le_of_ble_eq_true rfl) dX8_readVoter_103 (fun r_103 d_103 q_103 => ?_)
              obtain ⟨rfl, rfl⟩ := q_103
              show zV l x g mX8_readVoter 4 _ _ _ [_] _
              have hbit : seen.testBit (tp (sk tp tl q) - 97) = true := by
                rw [← Bool.not_eq_false]
                exact fun z => h_94 (by rw [(and_bit _ _).mpr z]; rfl)
              exact z_bret rfl dX8_readVoter_106 (PM.f (by rw [spVot, if_neg (by omega), hsp, hsu, if_neg (by omega), if_pos hbit]) ((f1.tr (hR.MPF (by decide))).up (by decide)) (zu_at _ _ _ _))
          · refine z_aload_n 0 dX8_readVoter_78 rfl rfl ?_
            refine z_iconst dX8_readVoter_79 ?_
            refine z_aload_n 0 dX8_readVoter_80 rfl rfl ?_
            refine z_geti fl_RX8_126 (by decide) rfl rfl dX8_readVoter_81 ?_
            rw [c3]
            refine z_cv (t8_fails l hg d_59 (k := 1) (s := sk tp tl q)) mk_X8_fails mi_X8_fails ml_RX8_137 (by omega) (by decide) rfl rfl rfl rfl (Nat.le_of_ble_eq_true rfl) dX8_readVoter_84 (fun r_84 d_84 q_84 => ?_)
            obtain ⟨rfl, rfl⟩ := q_84
            show zV l x g mX8_readVoter 4 _ _ _ [_] _
            have hbad : en tp tl q - sk tp tl q ≠ 1 ∨ ¬ tp (sk tp tl q) - 97 < 8 := Or.inl (by omega)
            exact z_bret rfl dX8_readVoter_87 (PM.f (by rw [spVot, if_neg (by omega), hsp, hsu, if_pos hbad]) ((f1.tr (hR.MPF (by decide))).up (by decide)) (zu_at _ _ _ _))
  have key1 : ∀ (x : zX) (r k : Nat) (d1 : zD), hV h < 9 → zF [49] d d1 → (∀ i, i ≠ 8 * hV h → i < 8 * hV h → d1 49 i = d 49 i) → (∀ c, c < k → d1 49 (8 * hV h + c) = 0) → k ≤ 8 → 8 - k < r → zV l x g mX8_readVoter 4 (PM d (spVot tp tl h b p) (okM tp tl)) 25 [(0, zr g 37), (1, zi (sk tp tl p : Nat)), (2, zi (hV h : Int)), (3, zi 0), (4, zi (k : Int))] [] d1 := by
    intro x r
    induction r with
    | zero => intro k d1 hv9 h1 h2 h3 h4 hr; omega
    | succ r ih =>
      intro k d1 hv9 F e1 e2 hk hr
      refine z_iload 4 dX8_readVoter_25 rfl ?_
      refine z_bipush dX8_readVoter_27 (by decide) ?_
      refine z_icmp_ge 51 (by omega) (by omega) dX8_readVoter_29 (by decide) (fun h_29 => ?_) (fun h_29 => ?_)
      · refine z_sub (L' := [(0, _), (1, _), (2, _), (3, _)]) [0, 1, 2, 3] rfl ?_
        refine key2 x 9 (en tp tl p) 0 (fun _ => 0) d1 hv9 (by rw [pcN_zero]) (by decide) (F.MPF (by decide)) (by rw [F 37 (by decide)]) (C.of (by rw [F 37 (by decide)])) ⟨⟨by rw [F 39 (by decide)]; exact ⟨h0, h1, h2, h3, h4, h5⟩, fun i hi => by rw [F 44 (by decide), F 45 (by decide), F 46 (by decide), F 47 (by decide)]; exact q2 i hi, fun i hi => by rw [e1 i (by omega) (by omega)]; exact q3 i hi, fun i hi => by rw [F 53 (by decide), F 54 (by decide), F 55 (by decide)]; exact q4 i hi⟩, by rw [F 37 (by decide)]; exact H.2.1, H.2.2, fun c hc => e2 c (by omega)⟩ (fun c => by omega) rfl
      · refine z_aload_n 0 dX8_readVoter_32 rfl rfl ?_
        refine z_getr fl_RX8_43 (by decide) rfl rfl dX8_readVoter_33 ?_
        refine z_bipush dX8_readVoter_36 (by decide) ?_
        refine z_iload_n 2 dX8_readVoter_38 rfl rfl ?_
        refine z_imul dX8_readVoter_39 ?_
        refine z_iload 4 dX8_readVoter_40 rfl ?_
        refine z_iadd dX8_readVoter_42 ?_
        refine z_iconst dX8_readVoter_43 ?_
        refine z_iast (8 * hV h + k) (by decide) rfl (by omega) (by omega) (by decide) dX8_readVoter_44 ?_
        refine z_iinc 4 (L' := [(0, _), (1, _), (2, _), (3, _), (4, _)]) dX8_readVoter_45 (by decide) rfl rfl rfl ?_
        refine z_goto 25 dX8_readVoter_48 (by decide) ?_
        refine z_LL _ ?_ (ih (k + 1) _ hv9 (F.up (by decide)) (fun i h1 h2 => by rw [zu_row, if_neg (by omega)]; exact e1 i h1 h2) (fun c hc => ?_) (by omega) (by omega))
        · rw [show (k : Int) + 1 = ((k + 1 : Nat) : Int) by omega]
        · rw [zu_row]
          split
          · rfl
          · exact e2 c (by omega)
  refine zC_of (L := [(0, _), (1, _)]) mk_X8_readVoter (Nat.le_of_ble_eq_true rfl) hg rfl (fun x => ?_)
  refine z_aload_n 0 dX8_readVoter_0 rfl rfl ?_
  refine z_getr fl_RX8_13 (by decide) rfl rfl dX8_readVoter_1 ?_
  refine z_iconst dX8_readVoter_4 ?_
  refine z_iald 3 (by decide) rfl rfl (by decide) (by decide) dX8_readVoter_5 ?_
  rw [h3]
  refine z_istore_n (L' := [(0, _), (1, _), (2, _)]) dX8_readVoter_6 rfl (by decide) rfl rfl ?_
  refine z_iload_n 2 dX8_readVoter_7 rfl rfl ?_
  refine z_bipush dX8_readVoter_8 (by decide) ?_
  refine z_icmp_ne 20 (by omega) (by omega) dX8_readVoter_10 (by decide) (fun h_10 => ?_) (fun h_10 => ?_)
  · refine z_iconst dX8_readVoter_20 ?_
    refine z_istore_n (L' := [(0, _), (1, _), (2, _), (3, _)]) dX8_readVoter_21 rfl (by decide) rfl rfl ?_
    refine z_iconst dX8_readVoter_22 ?_
    refine z_istore (L' := [(0, _), (1, _), (2, _), (3, _), (4, _)]) dX8_readVoter_23 (by decide) rfl rfl ?_
    exact key1 x 9 0 d (by omega) zF.rf (fun _ _ _ => rfl) (fun c hc => absurd hc (by omega)) (by omega) (by omega)
  · refine z_aload_n 0 dX8_readVoter_13 rfl rfl ?_
    refine z_iconst dX8_readVoter_14 ?_
    refine z_iload_n 1 dX8_readVoter_15 rfl rfl ?_
    refine z_cv (t8_fails l hg d (k := 4) (s := sk tp tl p)) mk_X8_fails mi_X8_fails ml_RX8_137 (by omega) (by decide) rfl rfl rfl rfl (Nat.le_of_ble_eq_true rfl) dX8_readVoter_16 (fun r_16 d_16 q_16 => ?_)
    obtain ⟨rfl, rfl⟩ := q_16
    show zV l x g mX8_readVoter 4 _ _ _ [_] _
    exact z_bret rfl dX8_readVoter_19 (PM.f (by rw [spVot, if_pos (by omega)]) (MPF.rf.up (by decide)) (zu_at _ _ _ _))
theorem t8_readJoint (l : Launch) {g : zG} (hg : zAmOk g) {d : zD} {tp : Nat → Nat} {tl p : Nat} {h : Hl} {b : Bool} (T : TM d tp tl) (C : CU d tp tl (en tp tl p)) (H : HN d h b) : zC l g mX8_readJoint 4 [zr g 37, zi (sk tp tl p : Nat)] d (PM d (spJoi tp tl h b p) (okM tp tl)) := by
  have w4 := H.2.2.2.2.2.1
  have w5 := H.2.2.2.2.2.2.1
  have t2 := T.2.1
  have he1 := en_le (tp := tp) C.1
  obtain ⟨⟨h0, h1, h2, h3, h4, h5⟩, q2, q3, q4⟩ := id H.1
  refine zC_of (L := [(0, _), (1, _)]) mk_X8_readJoint (Nat.le_of_ble_eq_true rfl) hg rfl (fun x => ?_)
  refine z_aload_n 0 dX8_readJoint_0 rfl rfl ?_
  refine z_getr fl_RX8_13 (by decide) rfl rfl dX8_readJoint_1 ?_
  refine z_iconst dX8_readJoint_4 ?_
  refine z_iald 4 (by decide) rfl rfl (by decide) (by decide) dX8_readJoint_5 ?_
  rw [h4]
  refine z_istore_n (L' := [(0, _), (1, _), (2, _)]) dX8_readJoint_6 rfl (by decide) rfl rfl ?_
  refine z_iload_n 2 dX8_readJoint_7 rfl rfl ?_
  refine z_bipush dX8_readJoint_8 (by decide) ?_
  refine z_icmp_ne 20 (by omega) (by omega) dX8_readJoint_10 (by decide) (fun h_10 => ?_) (fun h_10 => ?_)
  · refine z_aload_n 0 dX8_readJoint_20 rfl rfl ?_
    refine z_iconst dX8_readJoint_21 ?_
    refine z_aload_n 0 dX8_readJoint_22 rfl rfl ?_
    refine z_getr fl_RX8_13 (by decide) rfl rfl dX8_readJoint_23 ?_
    refine z_iconst dX8_readJoint_26 ?_
    refine z_iald 3 (by decide) rfl rfl (by decide) (by decide) dX8_readJoint_27 ?_
    refine z_iconst dX8_readJoint_28 ?_
    rw [h3]
    refine z_isub dX8_readJoint_29 ?_
    refine z_cv (t8_readNumber l hg T C (lo := 0) (hi := (hV h : Int) - 1) (by decide) (by omega)) mk_X8_readNumber mi_X8_readNumber ml_RX8_151 (by omega) (by decide) rfl rfl rfl rfl (Nat.le_of_ble_eq_true rfl) dX8_readJoint_30 (z_pm (fun f_30 d_30 e_30 a_30 b_30 => ?_) (fun v_30 d_30 e_30 a_30 b_30 c_30 => ?_))
    · have hsp : spJoi tp tl h b p = .inl f_30 := by
        rw [spJoi, if_neg (by omega)]
        unfold spNum at e_30
        split at e_30
        · rename_i c; cases e_30; rw [if_pos c]
        · rename_i c
          rw [if_neg c]
          split at e_30
          · cases e_30
          · rename_i c2; cases e_30; rw [if_pos (by omega)]
      refine z_if_ne 38 (by decide) dX8_readJoint_33 (by decide) (fun h_33 => absurd h_33 (by decide)) (fun h_33 => ?_)
      refine z_iconst dX8_readJoint_36 ?_
      exact z_bret (b := false) rfl dX8_readJoint_37 (PM.f hsp a_30 b_30)
    · have hsp : kd tp tl (en tp tl p) = 2 ∧ nv tp tl (en tp tl p) < hV h ∧ v_30 = en tp tl (en tp tl p) := by
        unfold spNum at e_30
        split at e_30
        · cases e_30
        · rename_i c
          split at e_30
          · rename_i c2; cases e_30; exact ⟨Classical.byContradiction c, by omega, rfl⟩
          · cases e_30
      obtain ⟨c1, c2, c3⟩ := c_30
      obtain ⟨hk2, hlt, rfl⟩ := hsp
      refine z_if_ne 38 (by decide) dX8_readJoint_33 (by decide) (fun h_33 => ?_) (fun h_33 => absurd h_33 (by decide))
      refine z_aload_n 0 dX8_readJoint_38 rfl rfl ?_
      refine z_getr fl_RX8_55 (by decide) rfl rfl dX8_readJoint_39 ?_
      refine z_iload_n 2 dX8_readJoint_42 rfl rfl ?_
      refine z_aload_n 0 dX8_readJoint_43 rfl rfl ?_
      refine z_geti fl_RX8_140 (by decide) rfl rfl dX8_readJoint_44 ?_
      rw [c3]
      refine z_iast (hJ h) (by decide) rfl rfl (by omega) (by decide) dX8_readJoint_47 ?_
      refine z_aload_n 0 dX8_readJoint_48 rfl rfl ?_
      refine z_iconst dX8_readJoint_49 ?_
      have aF1 : zF [53] d_30 (zu d_30 53 (hJ h) (nv tp tl (en tp tl p) : Int)) := zF.rf.up (by decide)
      refine z_cv (t8_readSet l hg ((a_30.ups (by decide)).TM T) (c2.of (by rw [zu_ne (by decide)])) (least := 2) (by decide)) mk_X8_readSet mi_X8_readSet ml_RX8_158 (by omega) (by decide) rfl rfl rfl rfl (Nat.le_of_ble_eq_true rfl) dX8_readJoint_50 (z_pm (fun f_50 d_50 e_50 a_50 b_50 => ?_) (fun v_50 d_50 e_50 a_50 b_50 c_50 => ?_))
      · refine z_if_ne 58 (by decide) dX8_readJoint_53 (by decide) (fun h_53 => absurd h_53 (by decide)) (fun h_53 => ?_)
        refine z_iconst dX8_readJoint_56 ?_
        exact z_bret (b := false) rfl dX8_readJoint_57 (PM.f (by rw [spJoi, if_neg (by omega), if_neg (by omega), if_neg (by omega), e_50]) ((a_30.ups (by decide)).tr a_50) b_50)
      · obtain ⟨u1, u2, u3⟩ := c_50
        have hse := spSet_ok (q := v_50.1) (s := v_50.2) he1.2 e_50
        refine z_if_ne 58 (by decide) dX8_readJoint_53 (by decide) (fun h_53 => ?_) (fun h_53 => absurd h_53 (by decide))
        refine z_aload_n 0 dX8_readJoint_58 rfl rfl ?_
        refine z_getr fl_RX8_58 (by decide) rfl rfl dX8_readJoint_59 ?_
        refine z_iload_n 2 dX8_readJoint_62 rfl rfl ?_
        refine z_aload_n 0 dX8_readJoint_63 rfl rfl ?_
        refine z_geti fl_RX8_123 (by decide) rfl rfl dX8_readJoint_64 ?_
        rw [u3]
        refine z_iast (hJ h) (by decide) rfl rfl (by omega) (by decide) dX8_readJoint_67 ?_
        refine z_aload_n 0 dX8_readJoint_68 rfl rfl ?_
        have aF2 : zF [54] d_50 (zu d_50 54 (hJ h) (v_50.2 : Int)) := zF.rf.up (by decide)
        refine z_cv (t8_readWeight l hg ((((a_30.ups (by decide)).tr a_50).ups (by decide)).TM T) (u2.of (by rw [zu_ne (by decide)]))) mk_X8_readWeight mi_X8_readWeight ml_RX8_179 (by omega) (by decide) rfl rfl rfl rfl (Nat.le_of_ble_eq_true rfl) dX8_readJoint_69 (z_pm (fun f_69 d_69 e_69 a_69 b_69 => ?_) (fun v_69 d_69 e_69 a_69 b_69 c_69 => ?_))
        · refine z_if_ne 77 (by decide) dX8_readJoint_72 (by decide) (fun h_72 => absurd h_72 (by decide)) (fun h_72 => ?_)
          refine z_iconst dX8_readJoint_75 ?_
          exact z_bret (b := false) rfl dX8_readJoint_76 (PM.f (by rw [spJoi, if_neg (by omega), if_neg (by omega), if_neg (by omega), e_50]; dsimp only; rw [e_69]) ((((a_30.ups (by decide)).tr a_50).ups (by decide)).tr a_69) b_69)
        · obtain ⟨y1, y2, y3⟩ := c_69
          have hy := spWei_ok (q := v_69.1) (y := v_69.2) hse.2.1 e_69
          refine z_if_ne 77 (by decide) dX8_readJoint_72 (by decide) (fun h_72 => ?_) (fun h_72 => absurd h_72 (by decide))
          refine z_aload_n 0 dX8_readJoint_77 rfl rfl ?_
          refine z_getr fl_RX8_61 (by decide) rfl rfl dX8_readJoint_78 ?_
          refine z_iload_n 2 dX8_readJoint_81 rfl rfl ?_
          refine z_aload_n 0 dX8_readJoint_82 rfl rfl ?_
          refine z_geti fl_RX8_140 (by decide) rfl rfl dX8_readJoint_83 ?_
          rw [y3]
          refine z_iast (hJ h) (by decide) rfl rfl (by omega) (by decide) dX8_readJoint_86 ?_
          refine z_aload_n 0 dX8_readJoint_87 rfl rfl ?_
          refine z_getr fl_RX8_13 (by decide) rfl rfl dX8_readJoint_88 ?_
          refine z_iconst dX8_readJoint_91 ?_
          refine z_dup2 dX8_readJoint_92 rfl rfl ?_
          refine z_iald 4 (by decide) rfl rfl (by decide) (by decide) dX8_readJoint_93 ?_
          have e39 : d_69 39 = d 39 := by rw [y1.1 39 (by decide), aF2 39 (by decide), u1.1 39 (by decide), aF1 39 (by decide), c1.1 39 (by decide)]
          rw [zu_ne (by decide), e39, h4]
          refine z_iconst dX8_readJoint_94 ?_
          refine z_iadd dX8_readJoint_95 ?_
          refine z_iast 4 (by decide) rfl rfl (by decide) (by decide) dX8_readJoint_96 ?_
          refine z_iconst dX8_readJoint_97 ?_
          generalize hd1 : zu (zu d_69 55 (hJ h) v_69.2) 39 4 ((hJ h : Int) + 1) = d1
          have aF : zF [39, 55] d_69 d1 := by rw [← hd1]; exact (zF.rf.up (by decide)).up (by decide)
          have hF : ∀ p, p ≠ 37 → p ≠ 39 → p ≠ 53 → p ≠ 54 → p ≠ 55 → d1 p = d p := fun p n1 n2 n3 n4 n5 => by rw [aF p (by simp; omega), y1.1 p (by simp; omega), aF2 p (by simp; omega), u1.1 p (by simp; omega), aF1 p (by simp; omega), c1.1 p (by simp; omega)]
          have b39 : ∀ i, d1 39 i = if i = 4 then (hJ h : Int) + 1 else d 39 i := fun i => by rw [← hd1]; simp only [zu_row, e39]; rw [zu_ne (by decide), e39]
          have b53 : ∀ i, d1 53 i = if i = hJ h then (nv tp tl (en tp tl p) : Int) else d 53 i := fun i => by rw [aF 53 (by decide), y1.1 53 (by decide), aF2 53 (by decide), u1.1 53 (by decide), zu_row, c1.1 53 (by decide)]
          have b54 : ∀ i, d1 54 i = if i = hJ h then (v_50.2 : Int) else d 54 i := fun i => by rw [aF 54 (by decide), y1.1 54 (by decide), zu_row, u1.1 54 (by decide), aF1 54 (by decide), c1.1 54 (by decide)]
          have b55 : ∀ i, d1 55 i = if i = hJ h then v_69.2 else d 55 i := fun i => by rw [← hd1, zu_ne (by decide), zu_row, y1.1 55 (by decide), aF2 55 (by decide), u1.1 55 (by decide), aF1 55 (by decide), c1.1 55 (by decide)]
          have b37 : d1 37 = d_69 37 := aF 37 (by decide)
          have b30 : d1 37 30 = zb b := by rw [b37, y1.2 30 (by decide), aF2 37 (by decide), u1.2 30 (by decide), aF1 37 (by decide), c1.2 30 (by decide)]; exact H.2.1
          have hMP : MPF d_69 d1 := aF.MPF (by decide)
          refine z_bret (b := true) rfl dX8_readJoint_98 (PM.t (v := (v_69.1, addJ h (nv tp tl (en tp tl p)) v_50.2 v_69.2, b)) (by rw [spJoi, if_neg (by omega), if_neg (by omega), if_neg (by omega), e_50]; dsimp only; rw [e_69]) (((((a_30.ups (by decide)).tr a_50).ups (by decide)).tr a_69).tr hMP) (by rw [b37, b_69, zu_ne (by decide), b_50, zu_ne (by decide), b_30]) ⟨y2.of (by rw [b37]), ⟨⟨by rw [b39]; exact h0, by rw [b39]; exact h1, by rw [b39]; exact h2, by rw [b39]; exact h3, by rw [b39]; rfl, by rw [b39]; exact h5⟩, fun i hi => by rw [hF 44 (by decide) (by decide) (by decide) (by decide) (by decide), hF 45 (by decide) (by decide) (by decide) (by decide) (by decide), hF 46 (by decide) (by decide) (by decide) (by decide) (by decide), hF 47 (by decide) (by decide) (by decide) (by decide) (by decide)]; exact q2 i hi, fun i hi => by rw [hF 49 (by decide) (by decide) (by decide) (by decide) (by decide)]; exact q3 i hi, fun i hi => ?_⟩, b30, Wf_addJ H.2.2 (by omega) hlt hse.2.2 hy.2.2⟩)
          have hi' : i < hJ h + 1 := hi
          show d1 53 i = ((if i = hJ h then _ else hjv h i : Nat) : Int) ∧ d1 54 i = ((if i = hJ h then v_50.2 else hjs h i : Nat) : Int) ∧ d1 55 i = (if i = hJ h then v_69.2 else hjw h i)
          rw [b53, b54, b55]
          by_cases e : i = hJ h
          · rw [if_pos e, if_pos e, if_pos e, if_pos e, if_pos e, if_pos e]; exact ⟨rfl, rfl, rfl⟩
          · rw [if_neg e, if_neg e, if_neg e, if_neg e, if_neg e, if_neg e]; exact q4 i (by omega)
  · refine z_aload_n 0 dX8_readJoint_13 rfl rfl ?_
    refine z_iconst dX8_readJoint_14 ?_
    refine z_iload_n 1 dX8_readJoint_15 rfl rfl ?_
    refine z_cv (t8_fails l hg d (k := 4) (s := sk tp tl p)) mk_X8_fails mi_X8_fails ml_RX8_137 (by omega) (by decide) rfl rfl rfl rfl (Nat.le_of_ble_eq_true rfl) dX8_readJoint_16 (fun r_16 d_16 q_16 => ?_)
    obtain ⟨rfl, rfl⟩ := q_16
    show zV l x g mX8_readJoint 4 _ _ _ [_] _
    exact z_bret rfl dX8_readJoint_19 (PM.f (by rw [spJoi, if_pos (by omega)]) (MPF.rf.up (by decide)) (zu_at _ _ _ _))
theorem t8_readStatement (l : Launch) {g : zG} (hg : zAmOk g) {d : zD} {tp : Nat → Nat} {tl p : Nat} {h : Hl} {b : Bool} (T : TM d tp tl) (C : CU d tp tl p) (H : HN d h b) : zC l g mX8_readStatement 5 [zr g 37] d (PM d (spSt tp tl h b p) (okM tp tl)) := by
  have hp := C.1
  have hs := sk_le (tp := tp) hp
  have he := en_le (tp := tp) hp
  refine zC_of (L := [(0, _)]) mk_X8_readStatement (Nat.le_of_ble_eq_true rfl) hg rfl (fun x => ?_)
  refine z_aload_n 0 dX8_readStatement_0 rfl rfl ?_
  refine z_cv (t8_isWord l hg T C) mk_X8_isWord mi_X8_isWord ml_RX8_143 (by omega) (by decide) rfl rfl rfl rfl (Nat.le_of_ble_eq_true rfl) dX8_readStatement_1 (fun r_1 d_1 q_1 => ?_)
  obtain ⟨rfl, g1, g2⟩ := q_1
  have T1 : TM d_1 tp tl := (g1.MPF (by decide)).TM T
  show zV l x g mX8_readStatement 5 _ _ _ [_] _
  refine z_if_ne_b 17 dX8_readStatement_4 (by decide) (fun h_4 => ?_) (fun h_4 => ?_)
  · have hk := of_decide_eq_true h_4
    have hwd := wd_inL hk
    refine z_aload_n 0 dX8_readStatement_17 rfl rfl ?_
    refine z_cv (t8_readWord l hg T1 hp hk g2) mk_X8_readWord mi_X8_readWord ml_RX8_147 (by omega) (by decide) rfl rfl rfl rfl (Nat.le_of_ble_eq_true rfl) dX8_readStatement_18 (fun r_18 d_18 q_18 => ?_)
    obtain ⟨rfl, c1, c2, c3, c4, c5⟩ := q_18
    have hR : MR [23, 26, 28, 29] d d_18 := (g1.mono (by decide)).tr c1
    have T2 := (hR.MPF (by decide)).TM T
    have H2 := H.of hR (by decide)
    have C2 : CU d_18 tp tl (en tp tl p) := CU.at he.2 c2
    have e24 := hR.2 24 (by decide)
    have hM := hR.MPF (by decide)
    show zV l x g mX8_readStatement 5 _ _ _ [_] _
    refine z_lstore_n (L' := [(0, _), (1, _)]) dX8_readStatement_21 rfl (by decide) rfl ?_
    refine z_aload_n 0 dX8_readStatement_22 rfl rfl ?_
    refine z_geti fl_RX8_126 (by decide) rfl rfl dX8_readStatement_23 ?_
    rw [c3]
    refine z_istore_n (L' := [(0, _), (1, _), (3, _)]) dX8_readStatement_26 rfl (by decide) rfl rfl ?_
    refine z_lload_n 1 dX8_readStatement_27 rfl rfl ?_
    refine z_ldc2 (v := 46263) wk_0 dX8_readStatement_28 ?_
    refine z_lcmp hwd (by decide) dX8_readStatement_31 ?_
    refine z_if_ne 41 (lcmp_in _ _) dX8_readStatement_32 (by decide) (fun h_32 => ?_) (fun h_32 => ?_)
    · have i0 : ¬ isW tp tl p 0 = true := fun z => h_32 (lcmp_0.mpr ((isW_0 hk).mpr z))
      refine z_lload_n 1 dX8_readStatement_41 rfl rfl ?_
      refine z_ldc2 (v := 791347) wk_1 dX8_readStatement_42 ?_
      refine z_lcmp hwd (by decide) dX8_readStatement_45 ?_
      refine z_if_ne 55 (lcmp_in _ _) dX8_readStatement_46 (by decide) (fun h_46 => ?_) (fun h_46 => ?_)
      · have i1 : ¬ isW tp tl p 1 = true := fun z => h_46 (lcmp_0.mpr ((isW_1 hk).mpr z))
        refine z_lload_n 1 dX8_readStatement_55 rfl rfl ?_
        refine z_ldc2 (v := 14420) wk_2 dX8_readStatement_56 ?_
        refine z_lcmp hwd (by decide) dX8_readStatement_59 ?_
        refine z_if_ne 69 (lcmp_in _ _) dX8_readStatement_60 (by decide) (fun h_60 => ?_) (fun h_60 => ?_)
        · have i2 : ¬ isW tp tl p 2 = true := fun z => h_60 (lcmp_0.mpr ((isW_2 hk).mpr z))
          refine z_lload_n 1 dX8_readStatement_69 rfl rfl ?_
          refine z_ldc2 (v := 12001680) wk_3 dX8_readStatement_70 ?_
          refine z_lcmp hwd (by decide) dX8_readStatement_73 ?_
          refine z_if_ne 83 (lcmp_in _ _) dX8_readStatement_74 (by decide) (fun h_74 => ?_) (fun h_74 => ?_)
          · have i3 : ¬ isW tp tl p 3 = true := fun z => h_74 (lcmp_0.mpr ((isW_3 hk).mpr z))
            refine z_lload_n 1 dX8_readStatement_83 rfl rfl ?_
            refine z_ldc2 (v := 5616614) wk_4 dX8_readStatement_84 ?_
            refine z_lcmp hwd (by decide) dX8_readStatement_87 ?_
            refine z_if_ne 97 (lcmp_in _ _) dX8_readStatement_88 (by decide) (fun h_88 => ?_) (fun h_88 => ?_)
            · have i4 : ¬ isW tp tl p 4 = true := fun z => h_88 (lcmp_0.mpr ((isW_4 hk).mpr z))
              refine z_lload_n 1 dX8_readStatement_97 rfl rfl ?_
              refine z_ldc2 (v := 9459316) wk_5 dX8_readStatement_98 ?_
              refine z_lcmp hwd (by decide) dX8_readStatement_101 ?_
              refine z_if_ne 113 (lcmp_in _ _) dX8_readStatement_102 (by decide) (fun h_102 => ?_) (fun h_102 => ?_)
              · have i5 : ¬ isW tp tl p 5 = true := fun z => h_102 (lcmp_0.mpr ((isW_5 hk).mpr z))
                refine z_aload_n 0 dX8_readStatement_113 rfl rfl ?_
                refine z_iconst dX8_readStatement_114 ?_
                refine z_iload_n 2 dX8_readStatement_115 rfl rfl ?_
                refine z_cv (t8_fails l hg d_18 (k := 1) (s := sk tp tl p)) mk_X8_fails mi_X8_fails ml_RX8_137 (by omega) (by decide) rfl rfl rfl rfl (Nat.le_of_ble_eq_true rfl) dX8_readStatement_116 (fun r_116 d_116 q_116 => ?_)
                obtain ⟨rfl, rfl⟩ := q_116
                show zV l x g mX8_readStatement 5 _ _ _ [_] _
                exact z_bret rfl dX8_readStatement_119 (PM.f (by rw [spSt, if_neg i0, if_neg i1, if_neg i2, if_neg i3, if_neg i4, if_neg i5]) (hM.up (by decide)) (zu_at _ _ _ _))
              · have i5 := (isW_5 hk).mp (lcmp_0.mp h_102)
                refine z_aload_n 0 dX8_readStatement_105 rfl rfl ?_
                refine z_iload_n 2 dX8_readStatement_106 rfl rfl ?_
                refine z_cv (t8_readQuota l hg T2 C2 H2) mk_X8_readQuota mi_X8_readQuota ml_RX8_205 (by omega) (by decide) rfl rfl rfl rfl (Nat.le_of_ble_eq_true rfl) dX8_readStatement_107 (z_pm (fun f_107 d_107 e_107 a_107 b_107 => ?_) (fun v_107 d_107 e_107 a_107 b_107 c_107 => ?_))
                · refine z_goto 119 dX8_readStatement_110 (by decide) ?_
                  exact z_bret (b := false) rfl dX8_readStatement_119 (PM.f (by rw [spSt, if_neg i0, if_neg i1, if_neg i2, if_neg i3, if_neg i4, if_pos i5, e_107]) (hM.tr a_107) b_107)
                · refine z_goto 119 dX8_readStatement_110 (by decide) ?_
                  exact z_bret (b := true) rfl dX8_readStatement_119 (PM.t (by rw [spSt, if_neg i0, if_neg i1, if_neg i2, if_neg i3, if_neg i4, if_pos i5, e_107]) (hM.tr a_107) (by rw [b_107, e24]) c_107)
            · have i4 := (isW_4 hk).mp (lcmp_0.mp h_88)
              refine z_aload_n 0 dX8_readStatement_91 rfl rfl ?_
              refine z_iload_n 2 dX8_readStatement_92 rfl rfl ?_
              refine z_cv (t8_readJoint l hg T2 C2 H2) mk_X8_readJoint mi_X8_readJoint ml_RX8_200 (by omega) (by decide) rfl rfl rfl rfl (Nat.le_of_ble_eq_true rfl) dX8_readStatement_93 (z_pm (fun f_93 d_93 e_93 a_93 b_93 => ?_) (fun v_93 d_93 e_93 a_93 b_93 c_93 => ?_))
              · exact z_bret (b := false) rfl dX8_readStatement_96 (PM.f (by rw [spSt, if_neg i0, if_neg i1, if_neg i2, if_neg i3, if_pos i4, e_93]) (hM.tr a_93) b_93)
              · exact z_bret (b := true) rfl dX8_readStatement_96 (PM.t (by rw [spSt, if_neg i0, if_neg i1, if_neg i2, if_neg i3, if_pos i4, e_93]) (hM.tr a_93) (by rw [b_93, e24]) c_93)
          · have i3 := (isW_3 hk).mp (lcmp_0.mp h_74)
            refine z_aload_n 0 dX8_readStatement_77 rfl rfl ?_
            refine z_iload_n 2 dX8_readStatement_78 rfl rfl ?_
            refine z_cv (t8_readVoter l hg T2 C2 H2) mk_X8_readVoter mi_X8_readVoter ml_RX8_195 (by omega) (by decide) rfl rfl rfl rfl (Nat.le_of_ble_eq_true rfl) dX8_readStatement_79 (z_pm (fun f_79 d_79 e_79 a_79 b_79 => ?_) (fun v_79 d_79 e_79 a_79 b_79 c_79 => ?_))
            · exact z_bret (b := false) rfl dX8_readStatement_82 (PM.f (by rw [spSt, if_neg i0, if_neg i1, if_neg i2, if_pos i3, e_79]) (hM.tr a_79) b_79)
            · exact z_bret (b := true) rfl dX8_readStatement_82 (PM.t (by rw [spSt, if_neg i0, if_neg i1, if_neg i2, if_pos i3, e_79]) (hM.tr a_79) (by rw [b_79, e24]) c_79)
        · have i2 := (isW_2 hk).mp (lcmp_0.mp h_60)
          refine z_aload_n 0 dX8_readStatement_63 rfl rfl ?_
          refine z_iload_n 2 dX8_readStatement_64 rfl rfl ?_
          refine z_cv (t8_readSub l hg T2 C2 H2) mk_X8_readSub mi_X8_readSub ml_RX8_190 (by omega) (by decide) rfl rfl rfl rfl (Nat.le_of_ble_eq_true rfl) dX8_readStatement_65 (z_pm (fun f_65 d_65 e_65 a_65 b_65 => ?_) (fun v_65 d_65 e_65 a_65 b_65 c_65 => ?_))
          · exact z_bret (b := false) rfl dX8_readStatement_68 (PM.f (by rw [spSt, if_neg i0, if_neg i1, if_pos i2, e_65]) (hM.tr a_65) b_65)
          · exact z_bret (b := true) rfl dX8_readStatement_68 (PM.t (by rw [spSt, if_neg i0, if_neg i1, if_pos i2, e_65]) (hM.tr a_65) (by rw [b_65, e24]) c_65)
      · have i1 := (isW_1 hk).mp (lcmp_0.mp h_46)
        refine z_aload_n 0 dX8_readStatement_49 rfl rfl ?_
        refine z_iload_n 2 dX8_readStatement_50 rfl rfl ?_
        refine z_cv (t8_readAmend l hg T2 C2 H2) mk_X8_readAmend mi_X8_readAmend ml_RX8_187 (by omega) (by decide) rfl rfl rfl rfl (Nat.le_of_ble_eq_true rfl) dX8_readStatement_51 (z_pm (fun f_51 d_51 e_51 a_51 b_51 => ?_) (fun v_51 d_51 e_51 a_51 b_51 c_51 => ?_))
        · exact z_bret (b := false) rfl dX8_readStatement_54 (PM.f (by rw [spSt, if_neg i0, if_pos i1, e_51]) (hM.tr a_51) b_51)
        · exact z_bret (b := true) rfl dX8_readStatement_54 (PM.t (by rw [spSt, if_neg i0, if_pos i1, e_51]) (hM.tr a_51) (by rw [b_51, e24]) c_51)
    · have i0 := (isW_0 hk).mp (lcmp_0.mp h_32)
      refine z_aload_n 0 dX8_readStatement_35 rfl rfl ?_
      refine z_iload_n 2 dX8_readStatement_36 rfl rfl ?_
      refine z_cv (t8_readBill l hg T2 C2 H2) mk_X8_readBill mi_X8_readBill ml_RX8_182 (by omega) (by decide) rfl rfl rfl rfl (Nat.le_of_ble_eq_true rfl) dX8_readStatement_37 (z_pm (fun f_37 d_37 e_37 a_37 b_37 => ?_) (fun v_37 d_37 e_37 a_37 b_37 c_37 => ?_))
      · exact z_bret (b := false) rfl dX8_readStatement_40 (PM.f (by rw [spSt, if_pos i0, e_37]) (hM.tr a_37) b_37)
      · exact z_bret (b := true) rfl dX8_readStatement_40 (PM.t (by rw [spSt, if_pos i0, e_37]) (hM.tr a_37) (by rw [b_37, e24]) c_37)
  · refine z_aload_n 0 dX8_readStatement_7 rfl rfl ?_
    refine z_iconst dX8_readStatement_8 ?_
    refine z_aload_n 0 dX8_readStatement_9 rfl rfl ?_
    refine z_geti fl_RX8_110 (by decide) rfl rfl dX8_readStatement_10 ?_
    rw [g2]
    have hk := of_decide_eq_false h_4
    have hw : ∀ i, isW tp tl p i = false := fun i => by rw [← Bool.not_eq_true]; exact fun z => hk (isW_kd z)
    refine z_cv (t8_fails l hg d_1 (k := 1) (s := sk tp tl p)) mk_X8_fails mi_X8_fails ml_RX8_137 (by omega) (by decide) rfl rfl rfl rfl (Nat.le_of_ble_eq_true rfl) dX8_readStatement_13 (fun r_13 d_13 q_13 => ?_)
    obtain ⟨rfl, rfl⟩ := q_13
    show zV l x g mX8_readStatement 5 _ _ _ [_] _
    exact z_bret rfl dX8_readStatement_16 (PM.f (by rw [spSt, if_neg (by rw [hw]; decide), if_neg (by rw [hw]; decide), if_neg (by rw [hw]; decide), if_neg (by rw [hw]; decide), if_neg (by rw [hw]; decide), if_neg (by rw [hw]; decide)]) ((g1.MPF (by decide)).up (by decide)) (zu_at _ _ _ _))
/-- what readText of the reference answers -/
def rmQ (d : zD) (R : Nat ⊕ (Nat × Hl)) : Option Value → zD → Prop := fun r d' => MPT d d' ∧ match R with
  | .inl f => r = some (zi (zb false)) ∧ d' 37 24 = (f : Int)
  | .inr v => r = some (zi (zb true)) ∧ d' 37 24 = 0 ∧ HNw d' v.2 ∧ Wf v.2 ∧ d' 37 27 = (v.1 : Int)
theorem rmQ.f {d d' : zD} {R : Nat ⊕ (Nat × Hl)} {f : Nat} (e : R = .inl f) (h1 : MPT d d') (h2 : d' 37 24 = (f : Int)) : rmQ d R (some (zi (zb false))) d' := by subst e; exact ⟨h1, rfl, h2⟩
theorem rmQ.t {d d' : zD} {R : Nat ⊕ (Nat × Hl)} {v : Nat × Hl} (e : R = .inr v) (h1 : MPT d d') (h2 : d' 37 24 = 0) (h3 : HNw d' v.2) (h4 : Wf v.2) (h5 : d' 37 27 = (v.1 : Int)) : rmQ d R (some (zi (zb true))) d' := by subst e; exact ⟨h1, rfl, h2, h3, h4, h5⟩
theorem hvI_0 {tp : Nat → Nat} {tl p : Nat} : hvI tp tl p = -1 ↔ kd tp tl p = 0 := by
  unfold hvI kd
  by_cases c : sk tp tl p < tl
  · rw [if_pos c, if_neg (by omega)]
    refine ⟨fun z => by omega, fun z => ?_⟩
    split at z
    · cases z
    · split at z
      · split at z <;> cases z
      · cases z
  · rw [if_neg c, if_pos (by omega)]; exact ⟨fun _ => rfl, fun _ => rfl⟩
theorem t8_readText (l : Launch) {g : zG} (hg : zAmOk g) {d : zD} {tp : Nat → Nat} {tl : Nat} (T : TM d tp tl) : zC l g mX8_readText 6 [zr g 37] d (rmQ d (spAll tp tl)) := by
  have t2 := T.2.1
  have key2 : ∀ (x : zX) (f p k : Nat) (h : Hl) (b : Bool) (d1 : zD), tl + 1 ≤ p + f → k ≤ tl + 1 → MPT d d1 → d1 37 24 = 0 → d1 37 27 = (k : Int) → CU d1 tp tl p → HN d1 h b → k + f ≤ tl + 1 → spAll tp tl = spTx tp tl f p k h b → zV l x g mX8_readText 6 (rmQ d (spAll tp tl)) 50 [(0, zr g 37)] [] d1 := by
    intro x f
    induction f with
    | zero => intro p k h b d1 hf hk F e4 e27 C H hkf hsp; have := C.1; omega
    | succ f ih =>
      intro p k h b d1 hf hk F e4 e27 C H hkf hsp
      have hp := C.1
      have T1 : TM d1 tp tl := F.TM T
      have hh := hvI_in tp (fun i hi => (T.2.2 i hi).2) p
      refine z_aload_n 0 dX8_readText_50 rfl rfl ?_
      refine z_cv (t8_here l hg T1 C) mk_X8_here mi_X8_here ml_RX8_116 (by omega) (by decide) rfl rfl rfl rfl (Nat.le_of_ble_eq_true rfl) dX8_readText_51 (fun r_51 d_51 q_51 => ?_)
      obtain ⟨rfl, g1, g2⟩ := q_51
      show zV l x g mX8_readText 6 _ _ _ [_] _
      refine z_iconst dX8_readText_54 ?_
      refine z_icmp_eq 109 (by omega) (by omega) dX8_readText_55 (by decide) (fun h_55 => ?_) (fun h_55 => ?_)
      · have hk0 := hvI_0.mp h_55
        refine z_iconst dX8_readText_109 ?_
        exact z_bret (b := true) rfl dX8_readText_110 (rmQ.t (v := (k, h)) (by rw [hsp, spTx, if_pos hk0]) (F.tr (g1.MPF (by decide)).T) (by rw [g1.2 24 (by decide), e4]) (H.of g1 (by decide)).1 H.2.2 (by rw [g1.2 27 (by decide), e27]))
      · have hk0 : ¬ kd tp tl p = 0 := fun z => h_55 (hvI_0.mpr z)
        refine z_aload_n 0 dX8_readText_58 rfl rfl ?_
        refine z_cv (t8_readStatement l hg ((g1.MPF (by decide)).TM T1) (CU.sk hp g2) (H.of g1 (by decide))) mk_X8_readStatement mi_X8_readStatement ml_RX8_211 (by omega) (by decide) rfl rfl rfl rfl (Nat.le_of_ble_eq_true rfl) dX8_readText_59 (z_pm (fun f_59 d_59 e_59 a_59 b_59 => ?_) (fun v_59 d_59 e_59 a_59 b_59 c_59 => ?_))
        · refine z_if_ne 67 (by decide) dX8_readText_62 (by decide) (fun h_62 => absurd h_62 (by decide)) (fun h_62 => ?_)
          refine z_iconst dX8_readText_65 ?_
          exact z_bret (b := false) rfl dX8_readText_66 (rmQ.f (by rw [hsp, spTx, if_neg hk0, spSe, e_59]) ((F.tr (g1.MPF (by decide)).T).tr a_59.T) b_59)
        · refine z_if_ne 67 (by decide) dX8_readText_62 (by decide) (fun h_62 => ?_) (fun h_62 => absurd h_62 (by decide))
          obtain ⟨c1, c2⟩ := c_59
          have hst := spSt_ok (q := v_59.1) (h' := v_59.2.1) (b' := v_59.2.2) hp H.2.2 e_59
          have he1 := en_le (tp := tp) c1.1
          have hs1 := sk_le (tp := tp) c1.1
          have hh1 := hvI_in tp (fun i hi => (T.2.2 i hi).2) v_59.1
          have hsS := hvI_s tp tl v_59.1 (c := 59) (by decide)
          have F2 := (F.tr (g1.MPF (by decide)).T).tr a_59.T
          refine z_aload_n 0 dX8_readText_67 rfl rfl ?_
          refine z_cv (t8_here l hg (F2.TM T) c1) mk_X8_here mi_X8_here ml_RX8_116 (by omega) (by decide) rfl rfl rfl rfl (Nat.le_of_ble_eq_true rfl) dX8_readText_68 (fun r_68 d_68 q_68 => ?_)
          obtain ⟨rfl, u1, u2⟩ := q_68
          show zV l x g mX8_readText 6 _ _ _ [_] _
          refine z_bipush dX8_readText_71 (by decide) ?_
          refine z_icmp_eq 86 (by omega) (by omega) dX8_readText_73 (by decide) (fun h_73 => ?_) (fun h_73 => ?_)
          · refine z_aload_n 0 dX8_readText_86 rfl rfl ?_
            refine z_dup dX8_readText_87 rfl ?_
            refine z_geti fl_RX8_110 (by decide) rfl rfl dX8_readText_88 ?_
            rw [u2]
            refine z_iconst dX8_readText_91 ?_
            refine z_iadd dX8_readText_92 ?_
            refine z_puti fp_RX8_110 (by decide) rfl rfl dX8_readText_93 ?_
            refine z_aload_n 0 dX8_readText_96 rfl rfl ?_
            refine z_dup dX8_readText_97 rfl ?_
            refine z_geti fl_RX8_208 (by decide) rfl rfl dX8_readText_98 ?_
            have b27 : d_59 37 27 = (k : Int) := by rw [a_59.2 27 (by decide), g1.2 27 (by decide), e27]
            rw [zu_row, if_neg (by decide), u1.2 27 (by decide), b27]
            refine z_iconst dX8_readText_101 ?_
            refine z_iadd dX8_readText_102 ?_
            refine z_puti fp_RX8_208 (by decide) rfl rfl dX8_readText_103 ?_
            refine z_goto 50 dX8_readText_106 (by decide) ?_
            have h_s := hsS.mp h_73
            have hen := en_s h_s
            refine ih (en tp tl v_59.1) (k + 1) v_59.2.1 v_59.2.2 _ (by omega) (by omega) (((F2.tr (u1.MPF (by decide)).T).up (by decide)).up (by decide)) ?_ ?_ ?_ ?_ (by omega) ?_
            · rw [zu_row, if_neg (by decide), zu_row, if_neg (by decide), u1.2 24 (by decide), b_59, g1.2 24 (by decide), e4]
            · rw [zu_at]; rfl
            · exact CU.at he1.2 (by rw [zu_row, if_neg (by decide), zu_at, hen.1]; rfl)
            · exact (c2.of u1 (by decide)).of (ps := [23, 27]) ((MR.rf.up (by decide)).up (by decide)) (by decide)
            · rw [hsp, spTx, if_neg hk0, spSe, e_59]; dsimp only; rw [if_pos h_s]
          · refine z_aload_n 0 dX8_readText_76 rfl rfl ?_
            refine z_iconst dX8_readText_77 ?_
            refine z_aload_n 0 dX8_readText_78 rfl rfl ?_
            refine z_geti fl_RX8_110 (by decide) rfl rfl dX8_readText_79 ?_
            rw [u2]
            refine z_cv (t8_fails l hg d_68 (k := 1) (s := sk tp tl v_59.1)) mk_X8_fails mi_X8_fails ml_RX8_137 (by omega) (by decide) rfl rfl rfl rfl (Nat.le_of_ble_eq_true rfl) dX8_readText_82 (fun r_82 d_82 q_82 => ?_)
            obtain ⟨rfl, rfl⟩ := q_82
            show zV l x g mX8_readText 6 _ _ _ [_] _
            exact z_bret rfl dX8_readText_85 (rmQ.f (by rw [hsp, spTx, if_neg hk0, spSe, e_59]; dsimp only; rw [if_neg (fun z => h_73 (hsS.mpr z))]) ((F2.tr (u1.MPF (by decide)).T).up (by decide)) (zu_at _ _ _ _))
  have key1 : ∀ (x : zX) (r k : Nat) (d1 : zD), MPT d d1 → d1 37 24 = 0 → d1 37 27 = 0 → d1 37 23 = 0 → d1 37 30 = zb false → (∀ i, i < k → d1 39 i = if i = 2 then -1 else 0) → k ≤ 6 → 6 - k < r → zV l x g mX8_readText 6 (rmQ d (spAll tp tl)) 22 [(0, zr g 37), (1, zi (k : Int))] [] d1 := by
    intro x r
    induction r with
    | zero => intro k d1 h1 h2 h3 h4 h5 h6 h7 hr; omega
    | succ r ih =>
      intro k d1 F e24 e27 e23 e30 e39 hk hr
      refine z_iload_n 1 dX8_readText_22 rfl rfl ?_
      refine z_bipush dX8_readText_23 (by decide) ?_
      refine z_icmp_ge 50 (by omega) (by omega) dX8_readText_25 (by decide) (fun h_25 => ?_) (fun h_25 => ?_)
      · refine z_sub (L' := [(0, _)]) [0] rfl ?_
        exact key2 x (tl + 1) 0 0 h0 false d1 (by omega) (by omega) F e24 e27 (CU.at (Nat.zero_le _) e23) ⟨⟨⟨e39 0 (by omega), e39 1 (by omega), e39 2 (by omega), e39 3 (by omega), e39 4 (by omega), e39 5 (by omega)⟩, fun i hi => absurd hi (Nat.not_lt_zero i), fun i hi => absurd hi (by show ¬ i < 8 * 0; omega), fun i hi => absurd hi (Nat.not_lt_zero i)⟩, e30, Wf_h0⟩ (by omega) rfl
      · refine z_aload_n 0 dX8_readText_28 rfl rfl ?_
        refine z_getr fl_RX8_13 (by decide) rfl rfl dX8_readText_29 ?_
        refine z_iload_n 1 dX8_readText_32 rfl rfl ?_
        refine z_iload_n 1 dX8_readText_33 rfl rfl ?_
        refine z_iconst dX8_readText_34 ?_
        refine z_icmp_ne 42 (by omega) (by omega) dX8_readText_35 (by decide) (fun h_35 => ?_) (fun h_35 => ?_)
        · refine z_iconst dX8_readText_42 ?_
          refine z_iast k (by decide) rfl rfl (by omega) (by decide) dX8_readText_43 ?_
          refine z_iinc 1 (L' := [(0, _), (1, _)]) dX8_readText_44 (by decide) rfl rfl rfl ?_
          refine z_goto 22 dX8_readText_47 (by decide) ?_
          refine z_LL _ ?_ (ih (k + 1) _ (F.ups (by decide)) (by rw [zu_ne (by decide)]; exact e24) (by rw [zu_ne (by decide)]; exact e27) (by rw [zu_ne (by decide)]; exact e23) (by rw [zu_ne (by decide)]; exact e30) (fun i hi => ?_) (by omega) (by omega))
          · rw [show (k : Int) + 1 = ((k + 1 : Nat) : Int) by omega]
          · rw [zu_row]
            split
            · rw [if_neg (by omega)]
            · exact e39 i (by omega)
        · refine z_iconst dX8_readText_38 ?_
          refine z_goto 43 dX8_readText_39 (by decide) ?_
          refine z_iast k (by decide) rfl rfl (by omega) (by decide) dX8_readText_43 ?_
          refine z_iinc 1 (L' := [(0, _), (1, _)]) dX8_readText_44 (by decide) rfl rfl rfl ?_
          refine z_goto 22 dX8_readText_47 (by decide) ?_
          refine z_LL _ ?_ (ih (k + 1) _ (F.ups (by decide)) (by rw [zu_ne (by decide)]; exact e24) (by rw [zu_ne (by decide)]; exact e27) (by rw [zu_ne (by decide)]; exact e23) (by rw [zu_ne (by decide)]; exact e30) (fun i hi => ?_) (by omega) (by omega))
          · rw [show (k : Int) + 1 = ((k + 1 : Nat) : Int) by omega]
          · rw [zu_row]
            split
            · rw [if_pos (by omega)]
            · exact e39 i (by omega)
  refine zC_of (L := [(0, _)]) mk_X8_readText (Nat.le_of_ble_eq_true rfl) hg rfl (fun x => ?_)
  refine z_aload_n 0 dX8_readText_0 rfl rfl ?_
  refine z_iconst dX8_readText_1 ?_
  refine z_puti fp_RX8_208 (by decide) rfl rfl dX8_readText_2 ?_
  refine z_aload_n 0 dX8_readText_5 rfl rfl ?_
  refine z_iconst dX8_readText_6 ?_
  refine z_puti fp_RX8_110 (by decide) rfl rfl dX8_readText_7 ?_
  refine z_aload_n 0 dX8_readText_10 rfl rfl ?_
  refine z_iconst dX8_readText_11 ?_
  refine z_puti fp_RX8_113 (by decide) rfl rfl dX8_readText_12 ?_
  refine z_aload_n 0 dX8_readText_15 rfl rfl ?_
  refine z_iconst dX8_readText_16 ?_
  refine z_putg fp_RX8_154 (by decide) rfl rfl (by decide +kernel) (by decide +kernel) dX8_readText_17 ?_
  refine z_iconst dX8_readText_20 ?_
  refine z_istore_n (L' := [(0, _), (1, _)]) dX8_readText_21 rfl (by decide) rfl rfl ?_
  exact key1 x 7 0 _ ((((MPT.rf.up (by decide)).up (by decide)).up (by decide)).up (by decide)) (by simp [zu]) (by simp [zu]) (by simp [zu]) (by simp [zu]; rfl) (fun i hi => absurd hi (by omega)) (by omega) (by omega)
