/-! the reference reads words, numbers, sets, weights -/
theorem wk_27 : Cond.constantLong RX8 129 (Int64.ofInt 27) ∈ zTB := zTB_in 1224 (by decide +kernel) rfl
theorem wk_m1 : Cond.constantLong RX8 131 (Int64.ofInt (-1)) ∈ zTB := zTB_in 1225 (by decide +kernel) rfl
theorem wk_0 : Cond.constantLong RX8 169 (Int64.ofInt 46263) ∈ zTB := zTB_in 1229 (by decide +kernel) rfl
theorem wk_1 : Cond.constantLong RX8 185 (Int64.ofInt 791347) ∈ zTB := zTB_in 1238 (by decide +kernel) rfl
theorem wk_2 : Cond.constantLong RX8 174 (Int64.ofInt 14420) ∈ zTB := zTB_in 1247 (by decide +kernel) rfl
theorem wk_3 : Cond.constantLong RX8 193 (Int64.ofInt 12001680) ∈ zTB := zTB_in 1260 (by decide +kernel) rfl
theorem wk_4 : Cond.constantLong RX8 198 (Int64.ofInt 5616614) ∈ zTB := zTB_in 1269 (by decide +kernel) rfl
theorem wk_5 : Cond.constantLong RX8 203 (Int64.ofInt 9459316) ∈ zTB := zTB_in 1274 (by decide +kernel) rfl
theorem lp8_readWord {l : Launch} {x : zX} {g : zG} {n : Nat} {d : zD} {tp : Nat → Nat} {tl a : Nat} (hg : zAmOk g) (T : TM d tp tl) (ha : a ≤ tl) (hn : 1 < n) {Q : Option Value → zD → Prop} (hQ : ∀ d', MR [23, 26, 28, 29] d d' → d' 37 23 = (rn tp tl 97 122 a : Nat) → d' 37 26 = (a : Nat) → d' 37 28 = stI (wsN tp a (rn tp tl 97 122 a - a)) → d' 37 29 = ((rn tp tl 97 122 a - a : Nat) : Int) → Q (some (zl (wdN tp a (rn tp tl 97 122 a - a)))) d') : ∀ r k d1, MR [23, 26, 28, 29] d d1 → d1 37 23 = ((a + k : Nat) : Int) → d1 37 26 = (a : Nat) → d1 37 28 = stI (wsN tp a k) → d1 37 29 = (k : Nat) → a + k ≤ tl → rn tp tl 97 122 (a + k) = rn tp tl 97 122 a → (∀ i, i < k → 97 ≤ tp (a + i) ∧ tp (a + i) ≤ 122) → tl - (a + k) < r → zV l x g mX8_readWord n Q 20 [(0, zr g 37), (1, zl (wdN tp a k))] [] d1 := by
  obtain ⟨t1, t2, t3⟩ := T
  intro r
  induction r with
  | zero => intro k d1 h1 h2 h3 h4 h5 h6 h7 h8 hr; omega
  | succ r ih =>
    intro k d1 F e23 e26 e28 e29 hk hrn hall hr
    have e21 : d1 37 21 = tl := by rw [F.2 21 (by decide)]; exact t1
    have e57 : d1 57 = d 57 := F.1 57 (by decide)
    have hw := wdN_in (tp := tp) (a := a) k (fun i hi => (hall i hi).2)
    have hst : -1 ≤ stI (wsN tp a k) ∧ stI (wsN tp a k) < 256 := by
      cases hws : wsN tp a k with
      | none => exact ⟨by decide, by decide⟩
      | some s => have := wsN_lt _ _ hws; exact ⟨by show -1 ≤ (s : Int); omega, by show (s : Int) < 256; omega⟩
    refine z_aload_n 0 dX8_readWord_20 rfl rfl ?_
    refine z_geti fl_RX8_110 (by decide) rfl rfl dX8_readWord_21 ?_
    refine z_aload_n 0 dX8_readWord_24 rfl rfl ?_
    refine z_geti fl_RX8_99 (by decide) rfl rfl dX8_readWord_25 ?_
    rw [e23, e21]
    refine z_icmp_ge 152 (by omega) (by omega) dX8_readWord_28 (by decide) (fun h_28 => ?_) (fun h_28 => ?_)
    · refine z_lload_n 1 dX8_readWord_152 rfl rfl ?_
      have hend : rn tp tl 97 122 a = a + k := by rw [← hrn]; exact rn_f (fun z => by omega)
      have hq := hQ d1 F (by rw [hend, e23]) e26 (by rw [hend, show a + k - a = k by omega]; exact e28) (by rw [hend, show a + k - a = k by omega]; exact e29)
      rw [hend, show a + k - a = k by omega] at hq
      exact z_lret rfl dX8_readWord_153 (hq)
    · obtain ⟨u1, u2⟩ := t3 (a + k) (by omega)
      refine z_aload_n 0 dX8_readWord_31 rfl rfl ?_
      refine z_getr fl_RX8_67 (by decide) rfl rfl dX8_readWord_32 ?_
      refine z_aload_n 0 dX8_readWord_35 rfl rfl ?_
      refine z_geti fl_RX8_110 (by decide) rfl rfl dX8_readWord_36 ?_
      rw [e23]
      refine z_iald (a + k) (by decide) rfl rfl (by omega) (by decide) dX8_readWord_39 ?_
      rw [e57, u1]
      refine z_bipush dX8_readWord_40 (by decide) ?_
      refine z_bipush dX8_readWord_42 (by decide) ?_
      refine z_cs (t8_in l hg d1 (a := (tp (a + k) : Int)) (b := 97) (c := 122) (by omega) (by decide) (by decide)) mk_X8_in ms_X8_in ml_RX8_106 (by omega) rfl rfl (Nat.le_of_ble_eq_true rfl) dX8_readWord_44 (zpure ?_)
      refine z_if_eq_b 152 dX8_readWord_47 (by decide) (fun h_47 => ?_) (fun h_47 => ?_)
      · refine z_lload_n 1 dX8_readWord_152 rfl rfl ?_
        have hend : rn tp tl 97 122 a = a + k := by rw [← hrn]; exact rn_f (fun z => by have := of_decide_eq_false h_47; omega)
        have hq := hQ d1 F (by rw [hend, e23]) e26 (by rw [hend, show a + k - a = k by omega]; exact e28) (by rw [hend, show a + k - a = k by omega]; exact e29)
        rw [hend, show a + k - a = k by omega] at hq
        exact z_lret rfl dX8_readWord_153 (hq)
      · have hl := of_decide_eq_true h_47
        have hrt : rn tp tl 97 122 (a + k) = rn tp tl 97 122 (a + (k + 1)) := rn_t ⟨by omega, by omega, by omega⟩
        refine z_aload_n 0 dX8_readWord_50 rfl rfl ?_
        refine z_getr fl_RX8_67 (by decide) rfl rfl dX8_readWord_51 ?_
        refine z_aload_n 0 dX8_readWord_54 rfl rfl ?_
        refine z_geti fl_RX8_110 (by decide) rfl rfl dX8_readWord_55 ?_
        rw [e23]
        refine z_iald (a + k) (by decide) rfl rfl (by omega) (by decide) dX8_readWord_58 ?_
        refine z_bipush dX8_readWord_59 (by decide) ?_
        refine z_isub dX8_readWord_61 ?_
        rw [e57, u1]
        refine z_top ((tp (a + k) - 97 : Nat) : Int) (by omega) ?_
        refine z_istore_n (L' := [(0, _), (1, _), (3, _)]) dX8_readWord_62 rfl (by decide) rfl rfl ?_
        refine z_aload_n 0 dX8_readWord_63 rfl rfl ?_
        refine z_geti fl_RX8_120 (by decide) rfl rfl dX8_readWord_64 ?_
        refine z_bipush dX8_readWord_67 (by decide) ?_
        rw [e29]
        refine z_icmp_ge 85 (by omega) (by omega) dX8_readWord_69 (by decide) (fun h_69 => ?_) (fun h_69 => ?_)
        · refine z_ldc2 (v := -1) wk_m1 dX8_readWord_85 ?_
          rw [show (-1 : Int) = wdN tp a (k + 1) by rw [wdN, if_neg (by omega)]]
          refine z_lstoreK (kk := 1) (i := 1) (L' := [(0, _), (1, _), (3, _)]) [1, 0, 2] rfl (by decide) rfl dX8_readWord_88 ?_
          have key : ∀ d2, d2 = zu d1 37 28 (stI (wsN tp a (k + 1))) → zV l x g mX8_readWord n Q 129 [(0, zr g 37), (1, zl (wdN tp a (k + 1))), (3, zi ((tp (a + k) - 97 : Nat) : Int))] [] d2 := by
            rintro d2 rfl
            refine z_aload_n 0 dX8_readWord_129 rfl rfl ?_
            refine z_dup dX8_readWord_130 rfl ?_
            refine z_geti fl_RX8_120 (by decide) rfl rfl dX8_readWord_131 ?_
            rw [zu_row, if_neg (by decide), e29]
            refine z_iconst dX8_readWord_134 ?_
            refine z_iadd dX8_readWord_135 ?_
            refine z_puti fp_RX8_120 (by decide) rfl rfl dX8_readWord_136 ?_
            refine z_aload_n 0 dX8_readWord_139 rfl rfl ?_
            refine z_dup dX8_readWord_140 rfl ?_
            refine z_geti fl_RX8_110 (by decide) rfl rfl dX8_readWord_141 ?_
            rw [zu_row, if_neg (by decide), zu_row, if_neg (by decide), e23]
            refine z_iconst dX8_readWord_144 ?_
            refine z_iadd dX8_readWord_145 ?_
            refine z_puti fp_RX8_110 (by decide) rfl rfl dX8_readWord_146 ?_
            refine z_goto 20 dX8_readWord_149 (by decide) ?_
            refine z_sub (L' := [(0, _), (1, _)]) [0, 1] rfl ?_
            exact ih (k + 1) _ (((F.up (by decide)).up (by decide)).up (by decide)) (by rw [zu_at]; omega) (by simp [zu, e26]) (by simp [zu]) (by simp [zu]) (by omega) (by rw [← hrt, hrn]) (fun i hi => by by_cases e : i = k; (subst e; omega); exact hall i (by omega)) (by omega)
          refine z_aload_n 0 dX8_readWord_89 rfl rfl ?_
          refine z_aload_n 0 dX8_readWord_90 rfl rfl ?_
          refine z_geti fl_RX8_123 (by decide) rfl rfl dX8_readWord_91 ?_
          rw [e28]
          refine z_if_lt 114 (by omega) dX8_readWord_94 (by decide) (fun h_94 => ?_) (fun h_94 => ?_)
          · refine z_iconst dX8_readWord_114 ?_
            refine z_goto 126 dX8_readWord_115 (by decide) ?_
            refine z_puti fp_RX8_123 (by decide) rfl rfl dX8_readWord_126 ?_
            exact key _ (by rw [wsN]; cases hws : wsN tp a k with | none => rfl | some s => rw [hws] at h_94; exact absurd h_94 (by show ¬ (s : Int) < 0; omega))
          · refine z_iload_n 2 dX8_readWord_97 rfl rfl ?_
            refine z_bipush dX8_readWord_98 (by decide) ?_
            refine z_icmp_gt 114 (by omega) (by omega) dX8_readWord_100 (by decide) (fun h_100 => ?_) (fun h_100 => ?_)
            · refine z_iconst dX8_readWord_114 ?_
              refine z_goto 126 dX8_readWord_115 (by decide) ?_
              refine z_puti fp_RX8_123 (by decide) rfl rfl dX8_readWord_126 ?_
              exact key _ (by rw [wsN]; cases hws : wsN tp a k with | none => rfl | some s => dsimp only; rw [if_neg (by omega)]; rfl)
            · refine z_aload_n 0 dX8_readWord_103 rfl rfl ?_
              refine z_geti fl_RX8_123 (by decide) rfl rfl dX8_readWord_104 ?_
              refine z_iload_n 2 dX8_readWord_107 rfl rfl ?_
              obtain ⟨s, hs⟩ : ∃ s, wsN tp a k = some s := by
                cases hws : wsN tp a k with
                | none => rw [hws] at h_94; exact absurd h_94 (by decide)
                | some s => exact ⟨s, rfl⟩
              rw [e28, hs]
              have hs8 := wsN_lt _ _ hs
              refine z_cs (t8_has l hg d1 (s := s) (m := tp (a + k) - 97) (by omega)) mk_X8_has ms_X8_has ml_RX8_133 (by omega) rfl rfl (Nat.le_of_ble_eq_true rfl) dX8_readWord_108 (zpure ?_)
              refine z_if_eq_b 118 dX8_readWord_111 (by decide) (fun h_111 => ?_) (fun h_111 => ?_)
              · refine z_aload_n 0 dX8_readWord_118 rfl rfl ?_
                refine z_geti fl_RX8_123 (by decide) rfl rfl dX8_readWord_119 ?_
                rw [e28, hs]
                refine z_iconst dX8_readWord_122 ?_
                refine z_iload_n 2 dX8_readWord_123 rfl rfl ?_
                refine z_ishl _ (zshl (s := 1) (m := tp (a + k) - 97) (by omega) (by have : 2 ^ (tp (a + k) - 97) ≤ 2 ^ 7 := Nat.pow_le_pow_right (by decide) (by omega); omega)) dX8_readWord_124 ?_
                rw [Nat.one_mul]
                refine z_ior _ (zor _ _) dX8_readWord_125 ?_
                refine z_puti fp_RX8_123 (by decide) rfl rfl dX8_readWord_126 ?_
                exact key _ (by rw [wsN, hs]; dsimp only; rw [if_pos ⟨by omega, h_111⟩]; rfl)
              · refine z_iconst dX8_readWord_114 ?_
                refine z_goto 126 dX8_readWord_115 (by decide) ?_
                refine z_puti fp_RX8_123 (by decide) rfl rfl dX8_readWord_126 ?_
                exact key _ (by rw [wsN, hs]; dsimp only; rw [if_neg (by rw [h_111]; intro z; exact absurd z.2 (by decide))]; rfl)
        · refine z_lload_n 1 dX8_readWord_72 rfl rfl ?_
          refine z_ldc2 (v := 27) wk_27 dX8_readWord_73 ?_
          refine z_lmul dX8_readWord_76 ?_
          refine z_iload_n 2 dX8_readWord_77 rfl rfl ?_
          refine z_i2l (by omega) dX8_readWord_78 ?_
          refine z_ladd dX8_readWord_79 ?_
          refine z_lconst 1 (by decide) dX8_readWord_80 ?_
          refine z_ladd dX8_readWord_81 ?_
          refine z_goto 88 dX8_readWord_82 (by decide) ?_
          rw [show wdN tp a k * 27 + ((tp (a + k) - 97 : Nat) : Int) + 1 = wdN tp a (k + 1) by rw [wdN, if_pos (by omega)]]
          refine z_lstoreK (kk := 1) (i := 1) (L' := [(0, _), (1, _), (3, _)]) [1, 0, 2] rfl (by decide) rfl dX8_readWord_88 ?_
          have key : ∀ d2, d2 = zu d1 37 28 (stI (wsN tp a (k + 1))) → zV l x g mX8_readWord n Q 129 [(0, zr g 37), (1, zl (wdN tp a (k + 1))), (3, zi ((tp (a + k) - 97 : Nat) : Int))] [] d2 := by
            rintro d2 rfl
            refine z_aload_n 0 dX8_readWord_129 rfl rfl ?_
            refine z_dup dX8_readWord_130 rfl ?_
            refine z_geti fl_RX8_120 (by decide) rfl rfl dX8_readWord_131 ?_
            rw [zu_row, if_neg (by decide), e29]
            refine z_iconst dX8_readWord_134 ?_
            refine z_iadd dX8_readWord_135 ?_
            refine z_puti fp_RX8_120 (by decide) rfl rfl dX8_readWord_136 ?_
            refine z_aload_n 0 dX8_readWord_139 rfl rfl ?_
            refine z_dup dX8_readWord_140 rfl ?_
            refine z_geti fl_RX8_110 (by decide) rfl rfl dX8_readWord_141 ?_
            rw [zu_row, if_neg (by decide), zu_row, if_neg (by decide), e23]
            refine z_iconst dX8_readWord_144 ?_
            refine z_iadd dX8_readWord_145 ?_
            refine z_puti fp_RX8_110 (by decide) rfl rfl dX8_readWord_146 ?_
            refine z_goto 20 dX8_readWord_149 (by decide) ?_
            refine z_sub (L' := [(0, _), (1, _)]) [0, 1] rfl ?_
            exact ih (k + 1) _ (((F.up (by decide)).up (by decide)).up (by decide)) (by rw [zu_at]; omega) (by simp [zu, e26]) (by simp [zu]) (by simp [zu]) (by omega) (by rw [← hrt, hrn]) (fun i hi => by by_cases e : i = k; (subst e; omega); exact hall i (by omega)) (by omega)
          refine z_aload_n 0 dX8_readWord_89 rfl rfl ?_
          refine z_aload_n 0 dX8_readWord_90 rfl rfl ?_
          refine z_geti fl_RX8_123 (by decide) rfl rfl dX8_readWord_91 ?_
          rw [e28]
          refine z_if_lt 114 (by omega) dX8_readWord_94 (by decide) (fun h_94 => ?_) (fun h_94 => ?_)
          · refine z_iconst dX8_readWord_114 ?_
            refine z_goto 126 dX8_readWord_115 (by decide) ?_
            refine z_puti fp_RX8_123 (by decide) rfl rfl dX8_readWord_126 ?_
            exact key _ (by rw [wsN]; cases hws : wsN tp a k with | none => rfl | some s => rw [hws] at h_94; exact absurd h_94 (by show ¬ (s : Int) < 0; omega))
          · refine z_iload_n 2 dX8_readWord_97 rfl rfl ?_
            refine z_bipush dX8_readWord_98 (by decide) ?_
            refine z_icmp_gt 114 (by omega) (by omega) dX8_readWord_100 (by decide) (fun h_100 => ?_) (fun h_100 => ?_)
            · refine z_iconst dX8_readWord_114 ?_
              refine z_goto 126 dX8_readWord_115 (by decide) ?_
              refine z_puti fp_RX8_123 (by decide) rfl rfl dX8_readWord_126 ?_
              exact key _ (by rw [wsN]; cases hws : wsN tp a k with | none => rfl | some s => dsimp only; rw [if_neg (by omega)]; rfl)
            · refine z_aload_n 0 dX8_readWord_103 rfl rfl ?_
              refine z_geti fl_RX8_123 (by decide) rfl rfl dX8_readWord_104 ?_
              refine z_iload_n 2 dX8_readWord_107 rfl rfl ?_
              obtain ⟨s, hs⟩ : ∃ s, wsN tp a k = some s := by
                cases hws : wsN tp a k with
                | none => rw [hws] at h_94; exact absurd h_94 (by decide)
                | some s => exact ⟨s, rfl⟩
              rw [e28, hs]
              have hs8 := wsN_lt _ _ hs
              refine z_cs (t8_has l hg d1 (s := s) (m := tp (a + k) - 97) (by omega)) mk_X8_has ms_X8_has ml_RX8_133 (by omega) rfl rfl (Nat.le_of_ble_eq_true rfl) dX8_readWord_108 (zpure ?_)
              refine z_if_eq_b 118 dX8_readWord_111 (by decide) (fun h_111 => ?_) (fun h_111 => ?_)
              · refine z_aload_n 0 dX8_readWord_118 rfl rfl ?_
                refine z_geti fl_RX8_123 (by decide) rfl rfl dX8_readWord_119 ?_
                rw [e28, hs]
                refine z_iconst dX8_readWord_122 ?_
                refine z_iload_n 2 dX8_readWord_123 rfl rfl ?_
                refine z_ishl _ (zshl (s := 1) (m := tp (a + k) - 97) (by omega) (by have : 2 ^ (tp (a + k) - 97) ≤ 2 ^ 7 := Nat.pow_le_pow_right (by decide) (by omega); omega)) dX8_readWord_124 ?_
                rw [Nat.one_mul]
                refine z_ior _ (zor _ _) dX8_readWord_125 ?_
                refine z_puti fp_RX8_123 (by decide) rfl rfl dX8_readWord_126 ?_
                exact key _ (by rw [wsN, hs]; dsimp only; rw [if_pos ⟨by omega, h_111⟩]; rfl)
              · refine z_iconst dX8_readWord_114 ?_
                refine z_goto 126 dX8_readWord_115 (by decide) ?_
                refine z_puti fp_RX8_123 (by decide) rfl rfl dX8_readWord_126 ?_
                exact key _ (by rw [wsN, hs]; dsimp only; rw [if_neg (by rw [h_111]; intro z; exact absurd z.2 (by decide))]; rfl)
theorem t8_readWord (l : Launch) {g : zG} (hg : zAmOk g) {d : zD} {tp : Nat → Nat} {tl p : Nat} (T : TM d tp tl) (hp : p ≤ tl) (hk : kd tp tl p = 1) (e23 : d 37 23 = (sk tp tl p : Nat)) : zC l g mX8_readWord 2 [zr g 37] d (fun r d' => r = some (zl (wdN tp (sk tp tl p) (en tp tl p - sk tp tl p))) ∧ MR [23, 26, 28, 29] d d' ∧ d' 37 23 = (en tp tl p : Nat) ∧ d' 37 26 = (sk tp tl p : Nat) ∧ d' 37 28 = stI (wsN tp (sk tp tl p) (en tp tl p - sk tp tl p)) ∧ d' 37 29 = ((en tp tl p - sk tp tl p : Nat) : Int)) := by
  obtain ⟨h1, h2⟩ := kd1_en hk
  refine zC_of (L := [(0, _)]) mk_X8_readWord (Nat.le_of_ble_eq_true rfl) hg rfl (fun x => ?_)
  refine z_lconst 0 (by decide) dX8_readWord_0 ?_
  refine z_lstore_n (L' := [(0, _), (1, _)]) dX8_readWord_1 rfl (by decide) rfl ?_
  refine z_aload_n 0 dX8_readWord_2 rfl rfl ?_
  refine z_iconst dX8_readWord_3 ?_
  refine z_puti fp_RX8_120 (by decide) rfl rfl dX8_readWord_4 ?_
  refine z_aload_n 0 dX8_readWord_7 rfl rfl ?_
  refine z_iconst dX8_readWord_8 ?_
  refine z_puti fp_RX8_123 (by decide) rfl rfl dX8_readWord_9 ?_
  refine z_aload_n 0 dX8_readWord_12 rfl rfl ?_
  refine z_aload_n 0 dX8_readWord_13 rfl rfl ?_
  skip
  refine z_geti fl_RX8_110 (by decide) rfl rfl dX8_readWord_14 ?_
  rw [zu_row, if_neg (by decide), zu_row, if_neg (by decide), e23]
  refine z_puti fp_RX8_126 (by decide) rfl rfl dX8_readWord_17 ?_
  refine lp8_readWord hg T (a := sk tp tl p) (by omega) (by omega) (fun d' a1 a2 a3 a4 a5 => ?_) (tl + 1) 0 _ (((MR.rf.up (by decide)).up (by decide)).up (by decide)) (by simp [zu, e23]) (by simp [zu]) (by simp [zu]; rfl) (by simp [zu]) (by omega) rfl (fun i hi => absurd hi (by omega)) (by omega)
  rw [h2]
  exact ⟨rfl, a1, a2, a3, a4, a5⟩
